set_option maxHeartbeats 4000000 in
set_option maxRecDepth 100000 in
theorem c_hc_0 (l : Launch) (D : va_G) (b : Nat) : ∀ (ρ : Nat → Nat) (κ : Nat → ClassId) (sz : Nat), Met l kyi0 (Cond.code kyi0 prog_2_method_1_code 1 none :: kG) kri_0 (va_Pc ([Value.ref 1].map (mm_cv ρ b)) (mm_Pre kNW D kl ρ κ b [.inr (3, [.null, .null, .null, .null, .null, .null, .null]), .inr (0, [.null, .null, .null, .null, .null])] sz)) (mc_Post D ρ κ b [.inr (3, [.null, .null, .null, .null, .null, .null, .null]), .inr (0, [.null, .null, .null, .null, .null])] [.inr (3, [.null, .null, .null, .null, .null, .null, .null]), .inr (0, [.ref 2, .ref 3, .ref 4, .ref 5, .ref 6]), .inl (.int, 256, .inl (x_fill (fun _ => 0) (-1) 256)), zi 256, zi 4, zi 96, zi 4] sz) 5 616 (va_A (mm_rep ρ κ b [.inr (3, [.null, .null, .null, .null, .null, .null, .null]), .inr (0, [.null, .null, .null, .null, .null])]) sz) := by
  intro ρ κ sz
  refine mc_Met (M := kqi_0) (L0 := [some (.ref 1)]) (by decide +kernel) rfl (by decide) rfl koi_0 rfl ?_
  intro p e s m args below meth c A C hname hr hlocks hA
  have hT : ∀ w ∈ kG, w ∈ Cond.code kyi0 prog_2_method_1_code 1 none :: kG := fun w h => List.mem_cons_of_mem _ h
  refine mc_step C rfl (fun _ => rfl) rfl ?_
  refine mc_obj C rfl (hT _ kl_HoleCounter_Complex_3) (hT _ kobjI) (hT _ kobjC) (by decide) (by decide) rfl ?_
  refine mc_step C rfl (fun _ => rfl) rfl ?_
  refine mc_step C rfl (fun _ => rfl) rfl ?_
  refine mc_newa (ty := .int) (a0 := (256, .inl (fun _ => 0))) (N := 256) (N1 := 2) C rfl rfl (hT _ karrInt) (fun _ => rfl) (by decide) (by decide) (by decide) rfl (by decide) (by decide) rfl rfl ?_
  refine mc_putr (ci := 0) (j := 0) (N := 5) (Cn := kc0) (T := kf0) (ty0 := kt0) (ty := .array .int) C hname rfl rfl (by decide) (fun w h => hT w (kiG0 w h)) kto0 kn0 (hT _ kl_HoleCounter_Complex_9) rfl rfl (by decide +kernel) (fun _ => ⟨rfl, rfl⟩) rfl rfl rfl ?_
  refine mc_step C rfl (fun _ => rfl) rfl ?_
  refine mc_step C rfl (fun _ => rfl) rfl ?_
  refine mc_step C rfl (fun _ => rfl) rfl ?_
  refine mc_stat (j := 2) (np := 2) (v := none) (h' := [.inr (3, [.null, .null, .null, .null, .null, .null, .null]), .inr (0, [.ref 2, .null, .null, .null, .null]), .inl (.int, 256, .inl (x_fill (fun _ => 0) (-1) 256))]) C rfl rfl rfl rfl (x_fill_EC rfl (by decide)) rfl ?_
  refine mc_step C rfl (fun _ => rfl) rfl ?_
  refine mc_step C rfl (fun _ => rfl) rfl ?_
  refine mc_newa (ty := .int) (a0 := (256, .inl (fun _ => 0))) (N := 256) (N1 := 3) C rfl rfl (hT _ karrInt) (fun _ => rfl) (by decide) (by decide) (by decide) rfl (by decide) (by decide) rfl rfl ?_
  refine mc_putr (ci := 0) (j := 1) (N := 5) (Cn := kc0) (T := kf0) (ty0 := kt0) (ty := .array .int) C hname rfl rfl (by decide) (fun w h => hT w (kiG0 w h)) kto0 kn0 (hT _ kl_HoleCounter_Complex_21) rfl rfl (by decide +kernel) (fun _ => ⟨rfl, rfl⟩) rfl rfl rfl ?_
  refine mc_step C rfl (fun _ => rfl) rfl ?_
  refine mc_step C rfl (fun _ => rfl) rfl ?_
  refine mc_newa (ty := .int) (a0 := (4, .inl (fun _ => 0))) (N := 4) (N1 := 4) C rfl rfl (hT _ karrInt) (fun _ => rfl) (by decide) (by decide) (by decide) rfl (by decide) (by decide) rfl rfl ?_
  refine mc_putr (ci := 0) (j := 2) (N := 5) (Cn := kc0) (T := kf0) (ty0 := kt0) (ty := .array .int) C hname rfl rfl (by decide) (fun w h => hT w (kiG0 w h)) kto0 kn0 (hT _ kl_HoleCounter_Complex_24) rfl rfl (by decide +kernel) (fun _ => ⟨rfl, rfl⟩) rfl rfl rfl ?_
  refine mc_step C rfl (fun _ => rfl) rfl ?_
  refine mc_step C rfl (fun _ => rfl) rfl ?_
  refine mc_newa (ty := .int) (a0 := (96, .inl (fun _ => 0))) (N := 96) (N1 := 5) C rfl rfl (hT _ karrInt) (fun _ => rfl) (by decide) (by decide) (by decide) rfl (by decide) (by decide) rfl rfl ?_
  refine mc_putr (ci := 0) (j := 3) (N := 5) (Cn := kc0) (T := kf0) (ty0 := kt0) (ty := .array .int) C hname rfl rfl (by decide) (fun w h => hT w (kiG0 w h)) kto0 kn0 (hT _ kl_HoleCounter_Complex_27) rfl rfl (by decide +kernel) (fun _ => ⟨rfl, rfl⟩) rfl rfl rfl ?_
  refine mc_step C rfl (fun _ => rfl) rfl ?_
  refine mc_step C rfl (fun _ => rfl) rfl ?_
  refine mc_newa (ty := .int) (a0 := (4, .inl (fun _ => 0))) (N := 4) (N1 := 6) C rfl rfl (hT _ karrInt) (fun _ => rfl) (by decide) (by decide) (by decide) rfl (by decide) (by decide) rfl rfl ?_
  refine mc_putr (ci := 0) (j := 4) (N := 5) (Cn := kc0) (T := kf0) (ty0 := kt0) (ty := .array .int) C hname rfl rfl (by decide) (fun w h => hT w (kiG0 w h)) kto0 kn0 (hT _ kl_HoleCounter_Complex_30) rfl rfl (by decide +kernel) (fun _ => ⟨rfl, rfl⟩) rfl rfl rfl ?_
  exact mc_ret C rfl hr hlocks hA
set_option maxHeartbeats 4000000 in
set_option maxRecDepth 100000 in
theorem c_hc_1 (l : Launch) (D : va_G) (b : Nat) : ∀ (ρ : Nat → Nat) (κ : Nat → ClassId) (sz : Nat), Met l kyi0 (Cond.code kyi0 prog_2_method_1_code 1 none :: kG) kri_0 (va_Pc ([Value.ref 7].map (mm_cv ρ b)) (mm_Pre kNW D kl ρ κ b [.inr (3, [.ref 1, .null, .null, .null, .null, .null, .null]), .inr (0, [.ref 2, .ref 3, .ref 4, .ref 5, .ref 6]), .inl (.int, 256, .inl (x_fill (fun _ => 0) (-1) 256)), zi 256, zi 4, zi 96, zi 4, .inr (0, [.null, .null, .null, .null, .null])] sz)) (mc_Post D ρ κ b [.inr (3, [.ref 1, .null, .null, .null, .null, .null, .null]), .inr (0, [.ref 2, .ref 3, .ref 4, .ref 5, .ref 6]), .inl (.int, 256, .inl (x_fill (fun _ => 0) (-1) 256)), zi 256, zi 4, zi 96, zi 4, .inr (0, [.null, .null, .null, .null, .null])] [.inr (3, [.ref 1, .null, .null, .null, .null, .null, .null]), .inr (0, [.ref 2, .ref 3, .ref 4, .ref 5, .ref 6]), .inl (.int, 256, .inl (x_fill (fun _ => 0) (-1) 256)), zi 256, zi 4, zi 96, zi 4, .inr (0, [.ref 8, .ref 9, .ref 10, .ref 11, .ref 12]), .inl (.int, 256, .inl (x_fill (fun _ => 0) (-1) 256)), zi 256, zi 4, zi 96, zi 4] sz) 5 616 (va_A (mm_rep ρ κ b [.inr (3, [.ref 1, .null, .null, .null, .null, .null, .null]), .inr (0, [.ref 2, .ref 3, .ref 4, .ref 5, .ref 6]), .inl (.int, 256, .inl (x_fill (fun _ => 0) (-1) 256)), zi 256, zi 4, zi 96, zi 4, .inr (0, [.null, .null, .null, .null, .null])]) sz) := by
  intro ρ κ sz
  refine mc_Met (M := kqi_0) (L0 := [some (.ref 7)]) (by decide +kernel) rfl (by decide) rfl koi_0 rfl ?_
  intro p e s m args below meth c A C hname hr hlocks hA
  have hT : ∀ w ∈ kG, w ∈ Cond.code kyi0 prog_2_method_1_code 1 none :: kG := fun w h => List.mem_cons_of_mem _ h
  refine mc_step C rfl (fun _ => rfl) rfl ?_
  refine mc_obj C rfl (hT _ kl_HoleCounter_Complex_3) (hT _ kobjI) (hT _ kobjC) (by decide) (by decide) rfl ?_
  refine mc_step C rfl (fun _ => rfl) rfl ?_
  refine mc_step C rfl (fun _ => rfl) rfl ?_
  refine mc_newa (ty := .int) (a0 := (256, .inl (fun _ => 0))) (N := 256) (N1 := 8) C rfl rfl (hT _ karrInt) (fun _ => rfl) (by decide) (by decide) (by decide) rfl (by decide) (by decide) rfl rfl ?_
  refine mc_putr (ci := 0) (j := 0) (N := 5) (Cn := kc0) (T := kf0) (ty0 := kt0) (ty := .array .int) C hname rfl rfl (by decide) (fun w h => hT w (kiG0 w h)) kto0 kn0 (hT _ kl_HoleCounter_Complex_9) rfl rfl (by decide +kernel) (fun _ => ⟨rfl, rfl⟩) rfl rfl rfl ?_
  refine mc_step C rfl (fun _ => rfl) rfl ?_
  refine mc_step C rfl (fun _ => rfl) rfl ?_
  refine mc_step C rfl (fun _ => rfl) rfl ?_
  refine mc_stat (j := 2) (np := 2) (v := none) (h' := [.inr (3, [.ref 1, .null, .null, .null, .null, .null, .null]), .inr (0, [.ref 2, .ref 3, .ref 4, .ref 5, .ref 6]), .inl (.int, 256, .inl (x_fill (fun _ => 0) (-1) 256)), zi 256, zi 4, zi 96, zi 4, .inr (0, [.ref 8, .null, .null, .null, .null]), .inl (.int, 256, .inl (x_fill (fun _ => 0) (-1) 256))]) C rfl rfl rfl rfl (x_fill_EC rfl (by decide)) rfl ?_
  refine mc_step C rfl (fun _ => rfl) rfl ?_
  refine mc_step C rfl (fun _ => rfl) rfl ?_
  refine mc_newa (ty := .int) (a0 := (256, .inl (fun _ => 0))) (N := 256) (N1 := 9) C rfl rfl (hT _ karrInt) (fun _ => rfl) (by decide) (by decide) (by decide) rfl (by decide) (by decide) rfl rfl ?_
  refine mc_putr (ci := 0) (j := 1) (N := 5) (Cn := kc0) (T := kf0) (ty0 := kt0) (ty := .array .int) C hname rfl rfl (by decide) (fun w h => hT w (kiG0 w h)) kto0 kn0 (hT _ kl_HoleCounter_Complex_21) rfl rfl (by decide +kernel) (fun _ => ⟨rfl, rfl⟩) rfl rfl rfl ?_
  refine mc_step C rfl (fun _ => rfl) rfl ?_
  refine mc_step C rfl (fun _ => rfl) rfl ?_
  refine mc_newa (ty := .int) (a0 := (4, .inl (fun _ => 0))) (N := 4) (N1 := 10) C rfl rfl (hT _ karrInt) (fun _ => rfl) (by decide) (by decide) (by decide) rfl (by decide) (by decide) rfl rfl ?_
  refine mc_putr (ci := 0) (j := 2) (N := 5) (Cn := kc0) (T := kf0) (ty0 := kt0) (ty := .array .int) C hname rfl rfl (by decide) (fun w h => hT w (kiG0 w h)) kto0 kn0 (hT _ kl_HoleCounter_Complex_24) rfl rfl (by decide +kernel) (fun _ => ⟨rfl, rfl⟩) rfl rfl rfl ?_
  refine mc_step C rfl (fun _ => rfl) rfl ?_
  refine mc_step C rfl (fun _ => rfl) rfl ?_
  refine mc_newa (ty := .int) (a0 := (96, .inl (fun _ => 0))) (N := 96) (N1 := 11) C rfl rfl (hT _ karrInt) (fun _ => rfl) (by decide) (by decide) (by decide) rfl (by decide) (by decide) rfl rfl ?_
  refine mc_putr (ci := 0) (j := 3) (N := 5) (Cn := kc0) (T := kf0) (ty0 := kt0) (ty := .array .int) C hname rfl rfl (by decide) (fun w h => hT w (kiG0 w h)) kto0 kn0 (hT _ kl_HoleCounter_Complex_27) rfl rfl (by decide +kernel) (fun _ => ⟨rfl, rfl⟩) rfl rfl rfl ?_
  refine mc_step C rfl (fun _ => rfl) rfl ?_
  refine mc_step C rfl (fun _ => rfl) rfl ?_
  refine mc_newa (ty := .int) (a0 := (4, .inl (fun _ => 0))) (N := 4) (N1 := 12) C rfl rfl (hT _ karrInt) (fun _ => rfl) (by decide) (by decide) (by decide) rfl (by decide) (by decide) rfl rfl ?_
  refine mc_putr (ci := 0) (j := 4) (N := 5) (Cn := kc0) (T := kf0) (ty0 := kt0) (ty := .array .int) C hname rfl rfl (by decide) (fun w h => hT w (kiG0 w h)) kto0 kn0 (hT _ kl_HoleCounter_Complex_30) rfl rfl (by decide +kernel) (fun _ => ⟨rfl, rfl⟩) rfl rfl rfl ?_
  exact mc_ret C rfl hr hlocks hA
set_option maxHeartbeats 4000000 in
set_option maxRecDepth 100000 in
theorem c_hc_2 (l : Launch) (D : va_G) (b : Nat) : ∀ (ρ : Nat → Nat) (κ : Nat → ClassId) (sz : Nat), Met l kyi1 (Cond.code kyi1 prog_3_method_1_code 1 none :: kG) kri_1 (va_Pc ([Value.ref 14].map (mm_cv ρ b)) (mm_Pre kNW D kl ρ κ b [.inr (3, [.ref 1, .ref 7, .ref 13, .null, .null, .null, .null]), .inr (0, [.ref 2, .ref 3, .ref 4, .ref 5, .ref 6]), .inl (.int, 256, .inl (x_fill (fun _ => 0) (-1) 256)), zi 256, zi 4, zi 96, zi 4, .inr (0, [.ref 8, .ref 9, .ref 10, .ref 11, .ref 12]), .inl (.int, 256, .inl (x_fill (fun _ => 0) (-1) 256)), zi 256, zi 4, zi 96, zi 4, .inl (.int, 8, .inl (x_idn 8)), .inr (1, [.null, .null, .null, .null, .null, .null, .int 0, .int 0, .int 0, .long 0, .int 0])] sz)) (mc_Post D ρ κ b [.inr (3, [.ref 1, .ref 7, .ref 13, .null, .null, .null, .null]), .inr (0, [.ref 2, .ref 3, .ref 4, .ref 5, .ref 6]), .inl (.int, 256, .inl (x_fill (fun _ => 0) (-1) 256)), zi 256, zi 4, zi 96, zi 4, .inr (0, [.ref 8, .ref 9, .ref 10, .ref 11, .ref 12]), .inl (.int, 256, .inl (x_fill (fun _ => 0) (-1) 256)), zi 256, zi 4, zi 96, zi 4, .inl (.int, 8, .inl (x_idn 8)), .inr (1, [.null, .null, .null, .null, .null, .null, .int 0, .int 0, .int 0, .long 0, .int 0])] [.inr (3, [.ref 1, .ref 7, .ref 13, .null, .null, .null, .null]), .inr (0, [.ref 2, .ref 3, .ref 4, .ref 5, .ref 6]), .inl (.int, 256, .inl (x_fill (fun _ => 0) (-1) 256)), zi 256, zi 4, zi 96, zi 4, .inr (0, [.ref 8, .ref 9, .ref 10, .ref 11, .ref 12]), .inl (.int, 256, .inl (x_fill (fun _ => 0) (-1) 256)), zi 256, zi 4, zi 96, zi 4, .inl (.int, 8, .inl (x_idn 8)), .inr (1, [.ref 15, .ref 16, .ref 17, .ref 18, .ref 19, .ref 20, .int 0, .int 0, .int 2147483647, .long 0, .int 0]), zi 2304, zi 2304, zi 31, zi 48, zi 10, zi 10] sz) 6 4707 (va_A (mm_rep ρ κ b [.inr (3, [.ref 1, .ref 7, .ref 13, .null, .null, .null, .null]), .inr (0, [.ref 2, .ref 3, .ref 4, .ref 5, .ref 6]), .inl (.int, 256, .inl (x_fill (fun _ => 0) (-1) 256)), zi 256, zi 4, zi 96, zi 4, .inr (0, [.ref 8, .ref 9, .ref 10, .ref 11, .ref 12]), .inl (.int, 256, .inl (x_fill (fun _ => 0) (-1) 256)), zi 256, zi 4, zi 96, zi 4, .inl (.int, 8, .inl (x_idn 8)), .inr (1, [.null, .null, .null, .null, .null, .null, .int 0, .int 0, .int 0, .long 0, .int 0])]) sz) := by
  intro ρ κ sz
  refine mc_Met (M := kqi_1) (L0 := [some (.ref 14)]) (by decide +kernel) rfl (by decide) rfl koi_1 rfl ?_
  intro p e s m args below meth c A C hname hr hlocks hA
  have hT : ∀ w ∈ kG, w ∈ Cond.code kyi1 prog_3_method_1_code 1 none :: kG := fun w h => List.mem_cons_of_mem _ h
  refine mc_step C rfl (fun _ => rfl) rfl ?_
  refine mc_obj C rfl (hT _ kl_HoleCounter_Grid_3) (hT _ kobjI) (hT _ kobjC) (by decide) (by decide) rfl ?_
  refine mc_step C rfl (fun _ => rfl) rfl ?_
  refine mc_step C rfl (fun _ => rfl) rfl ?_
  refine mc_newa (ty := .int) (a0 := (2304, .inl (fun _ => 0))) (N := 2304) (N1 := 15) C rfl rfl (hT _ karrInt) (fun _ => rfl) (by decide) (by decide) (by decide) rfl (by decide) (by decide) rfl rfl ?_
  refine mc_putr (ci := 1) (j := 0) (N := 11) (Cn := kc1) (T := kf1) (ty0 := kt1) (ty := .array .int) C hname rfl rfl (by decide) (fun w h => hT w (kiG1 w h)) kto1 kn1 (hT _ kl_HoleCounter_Grid_11) rfl rfl (by decide +kernel) (fun _ => ⟨rfl, rfl⟩) rfl rfl rfl ?_
  refine mc_step C rfl (fun _ => rfl) rfl ?_
  refine mc_step C rfl (fun _ => rfl) rfl ?_
  refine mc_newa (ty := .int) (a0 := (2304, .inl (fun _ => 0))) (N := 2304) (N1 := 16) C rfl rfl (hT _ karrInt) (fun _ => rfl) (by decide) (by decide) (by decide) rfl (by decide) (by decide) rfl rfl ?_
  refine mc_putr (ci := 1) (j := 1) (N := 11) (Cn := kc1) (T := kf1) (ty0 := kt1) (ty := .array .int) C hname rfl rfl (by decide) (fun w h => hT w (kiG1 w h)) kto1 kn1 (hT _ kl_HoleCounter_Grid_15) rfl rfl (by decide +kernel) (fun _ => ⟨rfl, rfl⟩) rfl rfl rfl ?_
  refine mc_step C rfl (fun _ => rfl) rfl ?_
  refine mc_step C rfl (fun _ => rfl) rfl ?_
  refine mc_newa (ty := .int) (a0 := (31, .inl (fun _ => 0))) (N := 31) (N1 := 17) C rfl rfl (hT _ karrInt) (fun _ => rfl) (by decide) (by decide) (by decide) rfl (by decide) (by decide) rfl rfl ?_
  refine mc_putr (ci := 1) (j := 2) (N := 11) (Cn := kc1) (T := kf1) (ty0 := kt1) (ty := .array .int) C hname rfl rfl (by decide) (fun w h => hT w (kiG1 w h)) kto1 kn1 (hT _ kl_HoleCounter_Grid_18) rfl rfl (by decide +kernel) (fun _ => ⟨rfl, rfl⟩) rfl rfl rfl ?_
  refine mc_step C rfl (fun _ => rfl) rfl ?_
  refine mc_step C rfl (fun _ => rfl) rfl ?_
  refine mc_newa (ty := .int) (a0 := (48, .inl (fun _ => 0))) (N := 48) (N1 := 18) C rfl rfl (hT _ karrInt) (fun _ => rfl) (by decide) (by decide) (by decide) rfl (by decide) (by decide) rfl rfl ?_
  refine mc_putr (ci := 1) (j := 3) (N := 11) (Cn := kc1) (T := kf1) (ty0 := kt1) (ty := .array .int) C hname rfl rfl (by decide) (fun w h => hT w (kiG1 w h)) kto1 kn1 (hT _ kl_HoleCounter_Grid_21) rfl rfl (by decide +kernel) (fun _ => ⟨rfl, rfl⟩) rfl rfl rfl ?_
  refine mc_step C rfl (fun _ => rfl) rfl ?_
  refine mc_step C rfl (fun _ => rfl) rfl ?_
  refine mc_newa (ty := .int) (a0 := (10, .inl (fun _ => 0))) (N := 10) (N1 := 19) C rfl rfl (hT _ karrInt) (fun _ => rfl) (by decide) (by decide) (by decide) rfl (by decide) (by decide) rfl rfl ?_
  refine mc_putr (ci := 1) (j := 4) (N := 11) (Cn := kc1) (T := kf1) (ty0 := kt1) (ty := .array .int) C hname rfl rfl (by decide) (fun w h => hT w (kiG1 w h)) kto1 kn1 (hT _ kl_HoleCounter_Grid_24) rfl rfl (by decide +kernel) (fun _ => ⟨rfl, rfl⟩) rfl rfl rfl ?_
  refine mc_step C rfl (fun _ => rfl) rfl ?_
  refine mc_step C rfl (fun _ => rfl) rfl ?_
  refine mc_newa (ty := .int) (a0 := (10, .inl (fun _ => 0))) (N := 10) (N1 := 20) C rfl rfl (hT _ karrInt) (fun _ => rfl) (by decide) (by decide) (by decide) rfl (by decide) (by decide) rfl rfl ?_
  refine mc_putr (ci := 1) (j := 5) (N := 11) (Cn := kc1) (T := kf1) (ty0 := kt1) (ty := .array .int) C hname rfl rfl (by decide) (fun w h => hT w (kiG1 w h)) kto1 kn1 (hT _ kl_HoleCounter_Grid_27) rfl rfl (by decide +kernel) (fun _ => ⟨rfl, rfl⟩) rfl rfl rfl ?_
  refine mc_step C rfl (fun _ => rfl) rfl ?_
  refine mc_step C rfl (fun _ => rfl) rfl ?_
  refine mc_step C rfl (fun _ => rfl) rfl ?_
  exact mc_ret C rfl hr hlocks hA
set_option maxHeartbeats 4000000 in
set_option maxRecDepth 100000 in
theorem c_hc_3 (l : Launch) (D : va_G) (b : Nat) : ∀ (ρ : Nat → Nat) (κ : Nat → ClassId) (sz : Nat), Met l kyi2 (Cond.code kyi2 prog_4_method_1_code 1 none :: kG) kri_2 (va_Pc ([Value.ref 21].map (mm_cv ρ b)) (mm_Pre kNW D kl ρ κ b [.inr (3, [.ref 1, .ref 7, .ref 13, .ref 14, .null, .null, .null]), .inr (0, [.ref 2, .ref 3, .ref 4, .ref 5, .ref 6]), .inl (.int, 256, .inl (x_fill (fun _ => 0) (-1) 256)), zi 256, zi 4, zi 96, zi 4, .inr (0, [.ref 8, .ref 9, .ref 10, .ref 11, .ref 12]), .inl (.int, 256, .inl (x_fill (fun _ => 0) (-1) 256)), zi 256, zi 4, zi 96, zi 4, .inl (.int, 8, .inl (x_idn 8)), .inr (1, [.ref 15, .ref 16, .ref 17, .ref 18, .ref 19, .ref 20, .int 0, .int 0, .int 2147483647, .long 0, .int 0]), zi 2304, zi 2304, zi 31, zi 48, zi 10, zi 10, .inr (2, [.null])] sz)) (mc_Post D ρ κ b [.inr (3, [.ref 1, .ref 7, .ref 13, .ref 14, .null, .null, .null]), .inr (0, [.ref 2, .ref 3, .ref 4, .ref 5, .ref 6]), .inl (.int, 256, .inl (x_fill (fun _ => 0) (-1) 256)), zi 256, zi 4, zi 96, zi 4, .inr (0, [.ref 8, .ref 9, .ref 10, .ref 11, .ref 12]), .inl (.int, 256, .inl (x_fill (fun _ => 0) (-1) 256)), zi 256, zi 4, zi 96, zi 4, .inl (.int, 8, .inl (x_idn 8)), .inr (1, [.ref 15, .ref 16, .ref 17, .ref 18, .ref 19, .ref 20, .int 0, .int 0, .int 2147483647, .long 0, .int 0]), zi 2304, zi 2304, zi 31, zi 48, zi 10, zi 10, .inr (2, [.null])] [.inr (3, [.ref 1, .ref 7, .ref 13, .ref 14, .null, .null, .null]), .inr (0, [.ref 2, .ref 3, .ref 4, .ref 5, .ref 6]), .inl (.int, 256, .inl (x_fill (fun _ => 0) (-1) 256)), zi 256, zi 4, zi 96, zi 4, .inr (0, [.ref 8, .ref 9, .ref 10, .ref 11, .ref 12]), .inl (.int, 256, .inl (x_fill (fun _ => 0) (-1) 256)), zi 256, zi 4, zi 96, zi 4, .inl (.int, 8, .inl (x_idn 8)), .inr (1, [.ref 15, .ref 16, .ref 17, .ref 18, .ref 19, .ref 20, .int 0, .int 0, .int 2147483647, .long 0, .int 0]), zi 2304, zi 2304, zi 31, zi 48, zi 10, zi 10, .inr (2, [.ref 22]), zl 24] sz) 1 24 (va_A (mm_rep ρ κ b [.inr (3, [.ref 1, .ref 7, .ref 13, .ref 14, .null, .null, .null]), .inr (0, [.ref 2, .ref 3, .ref 4, .ref 5, .ref 6]), .inl (.int, 256, .inl (x_fill (fun _ => 0) (-1) 256)), zi 256, zi 4, zi 96, zi 4, .inr (0, [.ref 8, .ref 9, .ref 10, .ref 11, .ref 12]), .inl (.int, 256, .inl (x_fill (fun _ => 0) (-1) 256)), zi 256, zi 4, zi 96, zi 4, .inl (.int, 8, .inl (x_idn 8)), .inr (1, [.ref 15, .ref 16, .ref 17, .ref 18, .ref 19, .ref 20, .int 0, .int 0, .int 2147483647, .long 0, .int 0]), zi 2304, zi 2304, zi 31, zi 48, zi 10, zi 10, .inr (2, [.null])]) sz) := by
  intro ρ κ sz
  refine mc_Met (M := kqi_2) (L0 := [some (.ref 21)]) (by decide +kernel) rfl (by decide) rfl koi_2 rfl ?_
  intro p e s m args below meth c A C hname hr hlocks hA
  have hT : ∀ w ∈ kG, w ∈ Cond.code kyi2 prog_4_method_1_code 1 none :: kG := fun w h => List.mem_cons_of_mem _ h
  refine mc_step C rfl (fun _ => rfl) rfl ?_
  refine mc_obj C rfl (hT _ kl_HoleCounter_Span_3) (hT _ kobjI) (hT _ kobjC) (by decide) (by decide) rfl ?_
  refine mc_step C rfl (fun _ => rfl) rfl ?_
  refine mc_step C rfl (fun _ => rfl) rfl ?_
  refine mc_newa (ty := .long) (a0 := (24, .inr (.inl (fun _ => 0)))) (N := 24) (N1 := 22) C rfl rfl (hT _ karrLong) (fun _ => rfl) (by decide) (by decide) (by decide) rfl (by decide) (by decide) rfl rfl ?_
  refine mc_putr (ci := 2) (j := 0) (N := 1) (Cn := kc2) (T := kf2) (ty0 := kt2) (ty := .array .long) C hname rfl rfl (by decide) (fun w h => hT w (kiG2 w h)) kto2 kn2 (hT _ kl_HoleCounter_Span_9) rfl rfl (by decide +kernel) (fun _ => ⟨rfl, rfl⟩) rfl rfl rfl ?_
  exact mc_ret C rfl hr hlocks hA
set_option maxHeartbeats 4000000 in
set_option maxRecDepth 100000 in
theorem c_hc (l : Launch) (D : va_G) (b : Nat) : ∀ (ρ : Nat → Nat) (κ : Nat → ClassId) (sz : Nat), Met l kyi3 (Cond.code kyi3 prog_1_method_1_code 2 none :: kG) kri_3 (va_Pc ([Value.ref 0].map (mm_cv ρ b)) (mm_Pre kNW D kl ρ κ b [.inr (3, [.null, .null, .null, .null, .null, .null, .null])] sz)) (mc_Post D ρ κ b [.inr (3, [.null, .null, .null, .null, .null, .null, .null])] [.inr (3, [.ref 1, .ref 7, .ref 13, .ref 14, .ref 21, .ref 23, .ref 24]), .inr (0, [.ref 2, .ref 3, .ref 4, .ref 5, .ref 6]), .inl (.int, 256, .inl (x_fill (fun _ => 0) (-1) 256)), zi 256, zi 4, zi 96, zi 4, .inr (0, [.ref 8, .ref 9, .ref 10, .ref 11, .ref 12]), .inl (.int, 256, .inl (x_fill (fun _ => 0) (-1) 256)), zi 256, zi 4, zi 96, zi 4, .inl (.int, 8, .inl (x_idn 8)), .inr (1, [.ref 15, .ref 16, .ref 17, .ref 18, .ref 19, .ref 20, .int 0, .int 0, .int 2147483647, .long 0, .int 0]), zi 2304, zi 2304, zi 31, zi 48, zi 10, zi 10, .inr (2, [.ref 22]), zl 24, zi 24, zi 24] sz) 24 6041 (va_A (mm_rep ρ κ b [.inr (3, [.null, .null, .null, .null, .null, .null, .null])]) sz) := by
  intro ρ κ sz
  refine mc_Met (M := kqi_3) (L0 := [some (.ref 0), none]) (by decide +kernel) rfl (by decide) rfl koi_3 rfl ?_
  intro p e s m args below meth c A C hname hr hlocks hA
  have hT : ∀ w ∈ kG, w ∈ Cond.code kyi3 prog_1_method_1_code 2 none :: kG := fun w h => List.mem_cons_of_mem _ h
  refine mc_step C rfl (fun _ => rfl) rfl ?_
  refine mc_obj C rfl (hT _ kl_HoleCounter_1) (hT _ kobjI) (hT _ kobjC) (by decide) (by decide) rfl ?_
  refine mc_step C rfl (fun _ => rfl) rfl ?_
  refine mc_new (ci := 0) (N := 5) (N1 := 1) (Cn := kc0) (T := kf0) (ty := kt0) (fs := [.null, .null, .null, .null, .null]) C rfl rfl (fun w h => hT w (kiG0 w h)) kto0 (hT _ kcl_HoleCounter_7) (hT _ kinst0) (hT _ kini_HoleCounter_Complex) (by decide +kernel) (fun _ => rfl) rfl (by decide) (by decide) rfl rfl ?_
  refine mc_step C rfl (fun _ => rfl) rfl ?_
  refine mc_init (a := 1) (N1 := 2) (mc := 5) (ms := 616) (ml := 1) (y := kyi0) (bytes := prog_2_method_1_code) (rm := kri_0) (h1 := [.inr (3, [.null, .null, .null, .null, .null, .null, .null]), .inr (0, [.ref 2, .ref 3, .ref 4, .ref 5, .ref 6]), .inl (.int, 256, .inl (x_fill (fun _ => 0) (-1) 256)), zi 256, zi 4, zi 96, zi 4]) C rfl (c_hc_0 l D b) (kG_N hT kwi0) (hT _ kini_HoleCounter_Complex) (hT _ kl_HoleCounter_9) (hT _ ksi0) rfl ⟨by decide, by decide, by decide +kernel⟩ ⟨by decide, by decide⟩ rfl rfl (by decide) (by decide) rfl rfl rfl (by decide) ?_
  refine mc_putr (ci := 3) (j := 0) (N := 7) (Cn := kc3) (T := kf3) (ty0 := kt3) (ty := .object "HoleCounter$Complex") C hname rfl rfl (by decide) (fun w h => hT w (kiG3 w h)) kto3 kn3 (hT _ kl_HoleCounter_10) rfl rfl (by decide +kernel) (fun _ => ⟨rfl, rfl⟩) rfl rfl rfl ?_
  refine mc_step C rfl (fun _ => rfl) rfl ?_
  refine mc_new (ci := 0) (N := 5) (N1 := 7) (Cn := kc0) (T := kf0) (ty := kt0) (fs := [.null, .null, .null, .null, .null]) C rfl rfl (fun w h => hT w (kiG0 w h)) kto0 (hT _ kcl_HoleCounter_7) (hT _ kinst0) (hT _ kini_HoleCounter_Complex) (by decide +kernel) (fun _ => rfl) rfl (by decide) (by decide) rfl rfl ?_
  refine mc_step C rfl (fun _ => rfl) rfl ?_
  refine mc_init (a := 7) (N1 := 8) (mc := 5) (ms := 616) (ml := 1) (y := kyi0) (bytes := prog_2_method_1_code) (rm := kri_0) (h1 := [.inr (3, [.ref 1, .null, .null, .null, .null, .null, .null]), .inr (0, [.ref 2, .ref 3, .ref 4, .ref 5, .ref 6]), .inl (.int, 256, .inl (x_fill (fun _ => 0) (-1) 256)), zi 256, zi 4, zi 96, zi 4, .inr (0, [.ref 8, .ref 9, .ref 10, .ref 11, .ref 12]), .inl (.int, 256, .inl (x_fill (fun _ => 0) (-1) 256)), zi 256, zi 4, zi 96, zi 4]) C rfl (c_hc_1 l D b) (kG_N hT kwi0) (hT _ kini_HoleCounter_Complex) (hT _ kl_HoleCounter_9) (hT _ ksi0) rfl ⟨by decide, by decide, by decide +kernel⟩ ⟨by decide, by decide⟩ rfl rfl (by decide) (by decide) rfl rfl rfl (by decide) ?_
  refine mc_putr (ci := 3) (j := 1) (N := 7) (Cn := kc3) (T := kf3) (ty0 := kt3) (ty := .object "HoleCounter$Complex") C hname rfl rfl (by decide) (fun w h => hT w (kiG3 w h)) kto3 kn3 (hT _ kl_HoleCounter_16) rfl rfl (by decide +kernel) (fun _ => ⟨rfl, rfl⟩) rfl rfl rfl ?_
  refine mc_step C rfl (fun _ => rfl) rfl ?_
  refine mc_step C rfl (fun _ => rfl) rfl ?_
  refine mc_newa (ty := .int) (a0 := (8, .inl (fun _ => 0))) (N := 8) (N1 := 13) C rfl rfl (hT _ karrInt) (fun _ => rfl) (by decide) (by decide) (by decide) rfl (by decide) (by decide) rfl rfl ?_
  refine mc_putr (ci := 3) (j := 2) (N := 7) (Cn := kc3) (T := kf3) (ty0 := kt3) (ty := .array .int) C hname rfl rfl (by decide) (fun w h => hT w (kiG3 w h)) kto3 kn3 (hT _ kl_HoleCounter_19) rfl rfl (by decide +kernel) (fun _ => ⟨rfl, rfl⟩) rfl rfl rfl ?_
  refine mc_step C rfl (fun _ => rfl) rfl ?_
  refine mc_step C rfl (fun _ => rfl) rfl ?_
  have e0 : ([.inr (3, [.ref 1, .ref 7, .ref 13, .null, .null, .null, .null]), .inr (0, [.ref 2, .ref 3, .ref 4, .ref 5, .ref 6]), .inl (.int, 256, .inl (x_fill (fun _ => 0) (-1) 256)), zi 256, zi 4, zi 96, zi 4, .inr (0, [.ref 8, .ref 9, .ref 10, .ref 11, .ref 12]), .inl (.int, 256, .inl (x_fill (fun _ => 0) (-1) 256)), zi 256, zi 4, zi 96, zi 4, zi 8] : mm_H) = (fun t : Nat => ([.inr (3, [.ref 1, .ref 7, .ref 13, .null, .null, .null, .null]), .inr (0, [.ref 2, .ref 3, .ref 4, .ref 5, .ref 6]), .inl (.int, 256, .inl (x_fill (fun _ => 0) (-1) 256)), zi 256, zi 4, zi 96, zi 4, .inr (0, [.ref 8, .ref 9, .ref 10, .ref 11, .ref 12]), .inl (.int, 256, .inl (x_fill (fun _ => 0) (-1) 256)), zi 256, zi 4, zi 96, zi 4, .inl (.int, 8, .inl (x_idn t))] : mm_H)) 0 := by
    show _ = ([.inr (3, [.ref 1, .ref 7, .ref 13, .null, .null, .null, .null]), .inr (0, [.ref 2, .ref 3, .ref 4, .ref 5, .ref 6]), .inl (.int, 256, .inl (x_fill (fun _ => 0) (-1) 256)), zi 256, zi 4, zi 96, zi 4, .inr (0, [.ref 8, .ref 9, .ref 10, .ref 11, .ref 12]), .inl (.int, 256, .inl (x_fill (fun _ => 0) (-1) 256)), zi 256, zi 4, zi 96, zi 4, .inl (.int, 8, .inl (x_idn 0))] : mm_H)
    rw [x_idn_0]
  refine mc_eqh e0 ?_
  have loop : ∀ (cells slots : Nat), mc_J p l e kri_3 s m args below meth c (MQ below (mc_Post D ρ κ b [.inr (3, [.null, .null, .null, .null, .null, .null, .null])] [.inr (3, [.ref 1, .ref 7, .ref 13, .ref 14, .ref 21, .ref 23, .ref 24]), .inr (0, [.ref 2, .ref 3, .ref 4, .ref 5, .ref 6]), .inl (.int, 256, .inl (x_fill (fun _ => 0) (-1) 256)), zi 256, zi 4, zi 96, zi 4, .inr (0, [.ref 8, .ref 9, .ref 10, .ref 11, .ref 12]), .inl (.int, 256, .inl (x_fill (fun _ => 0) (-1) 256)), zi 256, zi 4, zi 96, zi 4, .inl (.int, 8, .inl (x_idn 8)), .inr (1, [.ref 15, .ref 16, .ref 17, .ref 18, .ref 19, .ref 20, .int 0, .int 0, .int 2147483647, .long 0, .int 0]), zi 2304, zi 2304, zi 31, zi 48, zi 10, zi 10, .inr (2, [.ref 22]), zl 24, zi 24, zi 24] s.heap.size) args s 24 6041 (va_A (mm_rep ρ κ b [.inr (3, [.null, .null, .null, .null, .null, .null, .null])]) s.heap.size)) D A b 2 (List.length (α := mm_C) [.inr (3, [.null, .null, .null, .null, .null, .null, .null])]) ρ κ cells slots 55 [some (.ref 0), some (.int (nI 8))] [] [.inr (3, [.ref 1, .ref 7, .ref 13, .null, .null, .null, .null]), .inr (0, [.ref 2, .ref 3, .ref 4, .ref 5, .ref 6]), .inl (.int, 256, .inl (x_fill (fun _ => 0) (-1) 256)), zi 256, zi 4, zi 96, zi 4, .inr (0, [.ref 8, .ref 9, .ref 10, .ref 11, .ref 12]), .inl (.int, 256, .inl (x_fill (fun _ => 0) (-1) 256)), zi 256, zi 4, zi 96, zi 4, .inl (.int, 8, .inl (x_idn 8))] → ∀ (d t : Nat), t + d = 8 → mc_J p l e kri_3 s m args below meth c (MQ below (mc_Post D ρ κ b [.inr (3, [.null, .null, .null, .null, .null, .null, .null])] [.inr (3, [.ref 1, .ref 7, .ref 13, .ref 14, .ref 21, .ref 23, .ref 24]), .inr (0, [.ref 2, .ref 3, .ref 4, .ref 5, .ref 6]), .inl (.int, 256, .inl (x_fill (fun _ => 0) (-1) 256)), zi 256, zi 4, zi 96, zi 4, .inr (0, [.ref 8, .ref 9, .ref 10, .ref 11, .ref 12]), .inl (.int, 256, .inl (x_fill (fun _ => 0) (-1) 256)), zi 256, zi 4, zi 96, zi 4, .inl (.int, 8, .inl (x_idn 8)), .inr (1, [.ref 15, .ref 16, .ref 17, .ref 18, .ref 19, .ref 20, .int 0, .int 0, .int 2147483647, .long 0, .int 0]), zi 2304, zi 2304, zi 31, zi 48, zi 10, zi 10, .inr (2, [.ref 22]), zl 24, zi 24, zi 24] s.heap.size) args s 24 6041 (va_A (mm_rep ρ κ b [.inr (3, [.null, .null, .null, .null, .null, .null, .null])]) s.heap.size)) D A b 2 (List.length (α := mm_C) [.inr (3, [.null, .null, .null, .null, .null, .null, .null])]) ρ κ cells slots 36 [some (.ref 0), some (.int (nI t))] [] ((fun t : Nat => ([.inr (3, [.ref 1, .ref 7, .ref 13, .null, .null, .null, .null]), .inr (0, [.ref 2, .ref 3, .ref 4, .ref 5, .ref 6]), .inl (.int, 256, .inl (x_fill (fun _ => 0) (-1) 256)), zi 256, zi 4, zi 96, zi 4, .inr (0, [.ref 8, .ref 9, .ref 10, .ref 11, .ref 12]), .inl (.int, 256, .inl (x_fill (fun _ => 0) (-1) 256)), zi 256, zi 4, zi 96, zi 4, .inl (.int, 8, .inl (x_idn t))] : mm_H)) t) := by
    intro cells slots after d
    induction d with
    | zero =>
      intro t ht
      have : t = 8 := by omega
      subst this
      refine mc_step C rfl (fun _ => rfl) rfl ?_
      refine mc_step C rfl (fun _ => rfl) rfl ?_
      refine mc_step C rfl (fun _ => rfl) rfl ?_
      exact after
    | succ d ih =>
      intro t ht
      refine mc_step C rfl (fun _ => rfl) rfl ?_
      refine mc_step C rfl (fun _ => rfl) rfl ?_
      refine mc_step C rfl (fun _ => if_neg (nI_ge (a := t) (b := 8) (by omega) (by decide))) rfl ?_
      refine mc_step C rfl (fun _ => rfl) rfl ?_
      refine mc_step C rfl (fun _ => rfl) rfl ?_
      refine mc_step C rfl (fun _ => rfl) rfl ?_
      refine mc_step C rfl (fun _ => rfl) rfl ?_
      refine mc_step C rfl (fun _ => if_pos (mm_bd (by omega) (by decide))) rfl ?_
      refine mc_step C rfl (fun _ => rfl) rfl ?_
      refine mc_step C rfl (fun _ => rfl) rfl ?_
      have z := ih (t + 1) (by omega)
      rw [← nI_1] at z
      refine mc_eqh ?_ z
      show _ = (fun t : Nat => ([.inr (3, [.ref 1, .ref 7, .ref 13, .null, .null, .null, .null]), .inr (0, [.ref 2, .ref 3, .ref 4, .ref 5, .ref 6]), .inl (.int, 256, .inl (x_fill (fun _ => 0) (-1) 256)), zi 256, zi 4, zi 96, zi 4, .inr (0, [.ref 8, .ref 9, .ref 10, .ref 11, .ref 12]), .inl (.int, 256, .inl (x_fill (fun _ => 0) (-1) 256)), zi 256, zi 4, zi 96, zi 4, .inl (.int, 8, .inl (x_idn t))] : mm_H)) (t + 1)
      simp only [← x_idn_s]
      rw [mm_cl (by omega)]
  refine loop _ _ ?_ 8 0 rfl
  refine mc_step C rfl (fun _ => rfl) rfl ?_
  refine mc_new (ci := 1) (N := 11) (N1 := 14) (Cn := kc1) (T := kf1) (ty := kt1) (fs := [.null, .null, .null, .null, .null, .null, .int 0, .int 0, .int 0, .long 0, .int 0]) C rfl rfl (fun w h => hT w (kiG1 w h)) kto1 (hT _ kcl_HoleCounter_23) (hT _ kinst1) (hT _ kini_HoleCounter_Grid) (by decide +kernel) (fun _ => rfl) rfl (by decide) (by decide) rfl rfl ?_
  refine mc_step C rfl (fun _ => rfl) rfl ?_
  refine mc_init (a := 14) (N1 := 15) (mc := 6) (ms := 4707) (ml := 1) (y := kyi1) (bytes := prog_3_method_1_code) (rm := kri_1) (h1 := [.inr (3, [.ref 1, .ref 7, .ref 13, .null, .null, .null, .null]), .inr (0, [.ref 2, .ref 3, .ref 4, .ref 5, .ref 6]), .inl (.int, 256, .inl (x_fill (fun _ => 0) (-1) 256)), zi 256, zi 4, zi 96, zi 4, .inr (0, [.ref 8, .ref 9, .ref 10, .ref 11, .ref 12]), .inl (.int, 256, .inl (x_fill (fun _ => 0) (-1) 256)), zi 256, zi 4, zi 96, zi 4, .inl (.int, 8, .inl (x_idn 8)), .inr (1, [.ref 15, .ref 16, .ref 17, .ref 18, .ref 19, .ref 20, .int 0, .int 0, .int 2147483647, .long 0, .int 0]), zi 2304, zi 2304, zi 31, zi 48, zi 10, zi 10]) C rfl (c_hc_2 l D b) (kG_N hT kwi1) (hT _ kini_HoleCounter_Grid) (hT _ kl_HoleCounter_25) (hT _ ksi1) rfl ⟨by decide, by decide, by decide +kernel⟩ ⟨by decide, by decide⟩ rfl rfl (by decide) (by decide) rfl rfl rfl (by decide) ?_
  refine mc_putr (ci := 3) (j := 3) (N := 7) (Cn := kc3) (T := kf3) (ty0 := kt3) (ty := .object "HoleCounter$Grid") C hname rfl rfl (by decide) (fun w h => hT w (kiG3 w h)) kto3 kn3 (hT _ kl_HoleCounter_26) rfl rfl (by decide +kernel) (fun _ => ⟨rfl, rfl⟩) rfl rfl rfl ?_
  refine mc_step C rfl (fun _ => rfl) rfl ?_
  refine mc_new (ci := 2) (N := 1) (N1 := 21) (Cn := kc2) (T := kf2) (ty := kt2) (fs := [.null]) C rfl rfl (fun w h => hT w (kiG2 w h)) kto2 (hT _ kcl_HoleCounter_30) (hT _ kinst2) (hT _ kini_HoleCounter_Span) (by decide +kernel) (fun _ => rfl) rfl (by decide) (by decide) rfl rfl ?_
  refine mc_step C rfl (fun _ => rfl) rfl ?_
  refine mc_init (a := 21) (N1 := 22) (mc := 1) (ms := 24) (ml := 1) (y := kyi2) (bytes := prog_4_method_1_code) (rm := kri_2) (h1 := [.inr (3, [.ref 1, .ref 7, .ref 13, .ref 14, .null, .null, .null]), .inr (0, [.ref 2, .ref 3, .ref 4, .ref 5, .ref 6]), .inl (.int, 256, .inl (x_fill (fun _ => 0) (-1) 256)), zi 256, zi 4, zi 96, zi 4, .inr (0, [.ref 8, .ref 9, .ref 10, .ref 11, .ref 12]), .inl (.int, 256, .inl (x_fill (fun _ => 0) (-1) 256)), zi 256, zi 4, zi 96, zi 4, .inl (.int, 8, .inl (x_idn 8)), .inr (1, [.ref 15, .ref 16, .ref 17, .ref 18, .ref 19, .ref 20, .int 0, .int 0, .int 2147483647, .long 0, .int 0]), zi 2304, zi 2304, zi 31, zi 48, zi 10, zi 10, .inr (2, [.ref 22]), zl 24]) C rfl (c_hc_3 l D b) (kG_N hT kwi2) (hT _ kini_HoleCounter_Span) (hT _ kl_HoleCounter_32) (hT _ ksi2) rfl ⟨by decide, by decide, by decide +kernel⟩ ⟨by decide, by decide⟩ rfl rfl (by decide) (by decide) rfl rfl rfl (by decide) ?_
  refine mc_putr (ci := 3) (j := 4) (N := 7) (Cn := kc3) (T := kf3) (ty0 := kt3) (ty := .object "HoleCounter$Span") C hname rfl rfl (by decide) (fun w h => hT w (kiG3 w h)) kto3 kn3 (hT _ kl_HoleCounter_33) rfl rfl (by decide +kernel) (fun _ => ⟨rfl, rfl⟩) rfl rfl rfl ?_
  refine mc_step C rfl (fun _ => rfl) rfl ?_
  refine mc_step C rfl (fun _ => rfl) rfl ?_
  refine mc_newa (ty := .int) (a0 := (24, .inl (fun _ => 0))) (N := 24) (N1 := 23) C rfl rfl (hT _ karrInt) (fun _ => rfl) (by decide) (by decide) (by decide) rfl (by decide) (by decide) rfl rfl ?_
  refine mc_putr (ci := 3) (j := 5) (N := 7) (Cn := kc3) (T := kf3) (ty0 := kt3) (ty := .array .int) C hname rfl rfl (by decide) (fun w h => hT w (kiG3 w h)) kto3 kn3 (hT _ kl_HoleCounter_37) rfl rfl (by decide +kernel) (fun _ => ⟨rfl, rfl⟩) rfl rfl rfl ?_
  refine mc_step C rfl (fun _ => rfl) rfl ?_
  refine mc_step C rfl (fun _ => rfl) rfl ?_
  refine mc_newa (ty := .int) (a0 := (24, .inl (fun _ => 0))) (N := 24) (N1 := 24) C rfl rfl (hT _ karrInt) (fun _ => rfl) (by decide) (by decide) (by decide) rfl (by decide) (by decide) rfl rfl ?_
  refine mc_putr (ci := 3) (j := 6) (N := 7) (Cn := kc3) (T := kf3) (ty0 := kt3) (ty := .array .int) C hname rfl rfl (by decide) (fun w h => hT w (kiG3 w h)) kto3 kn3 (hT _ kl_HoleCounter_40) rfl rfl (by decide +kernel) (fun _ => ⟨rfl, rfl⟩) rfl rfl rfl ?_
  exact mc_ret C rfl hr hlocks hA
set_option maxHeartbeats 4000000 in
set_option maxRecDepth 100000 in
theorem c_mo (l : Launch) (D : va_G) (b : Nat) : ∀ (ρ : Nat → Nat) (κ : Nat → ClassId) (sz : Nat), Met l kyi4 (Cond.code kyi4 prog_6_method_1_code 2 none :: kG) kri_4 (va_Pc ([Value.ref 25].map (mm_cv ρ b)) (mm_Pre kNW D kl ρ κ b [.inr (3, [.ref 1, .ref 7, .ref 13, .ref 14, .ref 21, .ref 23, .ref 24]), .inr (0, [.ref 2, .ref 3, .ref 4, .ref 5, .ref 6]), .inl (.int, 256, .inl (x_fill (fun _ => 0) (-1) 256)), zi 256, zi 4, zi 96, zi 4, .inr (0, [.ref 8, .ref 9, .ref 10, .ref 11, .ref 12]), .inl (.int, 256, .inl (x_fill (fun _ => 0) (-1) 256)), zi 256, zi 4, zi 96, zi 4, .inl (.int, 8, .inl (x_idn 8)), .inr (1, [.ref 15, .ref 16, .ref 17, .ref 18, .ref 19, .ref 20, .int 0, .int 0, .int 2147483647, .long 0, .int 0]), zi 2304, zi 2304, zi 31, zi 48, zi 10, zi 10, .inr (2, [.ref 22]), zl 24, zi 24, zi 24, .inr (4, [.null, .null, .null, .int 0, .int 0, .null, .null, .int 0, .null, .null, .null, .int 0, .null, .null, .null])] sz)) (mc_Post D ρ κ b [.inr (3, [.ref 1, .ref 7, .ref 13, .ref 14, .ref 21, .ref 23, .ref 24]), .inr (0, [.ref 2, .ref 3, .ref 4, .ref 5, .ref 6]), .inl (.int, 256, .inl (x_fill (fun _ => 0) (-1) 256)), zi 256, zi 4, zi 96, zi 4, .inr (0, [.ref 8, .ref 9, .ref 10, .ref 11, .ref 12]), .inl (.int, 256, .inl (x_fill (fun _ => 0) (-1) 256)), zi 256, zi 4, zi 96, zi 4, .inl (.int, 8, .inl (x_idn 8)), .inr (1, [.ref 15, .ref 16, .ref 17, .ref 18, .ref 19, .ref 20, .int 0, .int 0, .int 2147483647, .long 0, .int 0]), zi 2304, zi 2304, zi 31, zi 48, zi 10, zi 10, .inr (2, [.ref 22]), zl 24, zi 24, zi 24, .inr (4, [.null, .null, .null, .int 0, .int 0, .null, .null, .int 0, .null, .null, .null, .int 0, .null, .null, .null])] [.inr (3, [.ref 1, .ref 7, .ref 13, .ref 14, .ref 21, .ref 23, .ref 24]), .inr (0, [.ref 2, .ref 3, .ref 4, .ref 5, .ref 6]), .inl (.int, 256, .inl (x_fill (fun _ => 0) (-1) 256)), zi 256, zi 4, zi 96, zi 4, .inr (0, [.ref 8, .ref 9, .ref 10, .ref 11, .ref 12]), .inl (.int, 256, .inl (x_fill (fun _ => 0) (-1) 256)), zi 256, zi 4, zi 96, zi 4, .inl (.int, 8, .inl (x_idn 8)), .inr (1, [.ref 15, .ref 16, .ref 17, .ref 18, .ref 19, .ref 20, .int 0, .int 0, .int 2147483647, .long 0, .int 0]), zi 2304, zi 2304, zi 31, zi 48, zi 10, zi 10, .inr (2, [.ref 22]), zl 24, zi 24, zi 24, .inr (4, [.ref 26, .ref 27, .ref 28, .int 0, .int 0, .ref 29, .ref 30, .int 0, .ref 31, .ref 32, .ref 33, .int 0, .ref 34, .ref 35, .ref 36]), zb 512, zi 512, .inl (.int, 8, .inl (x_idn 8)), zl 2304, zl 2304, zl 48, zi 24, zi 24, zi 24, zi 24, zi 24] sz) 11 5808 (va_A (mm_rep ρ κ b [.inr (3, [.ref 1, .ref 7, .ref 13, .ref 14, .ref 21, .ref 23, .ref 24]), .inr (0, [.ref 2, .ref 3, .ref 4, .ref 5, .ref 6]), .inl (.int, 256, .inl (x_fill (fun _ => 0) (-1) 256)), zi 256, zi 4, zi 96, zi 4, .inr (0, [.ref 8, .ref 9, .ref 10, .ref 11, .ref 12]), .inl (.int, 256, .inl (x_fill (fun _ => 0) (-1) 256)), zi 256, zi 4, zi 96, zi 4, .inl (.int, 8, .inl (x_idn 8)), .inr (1, [.ref 15, .ref 16, .ref 17, .ref 18, .ref 19, .ref 20, .int 0, .int 0, .int 2147483647, .long 0, .int 0]), zi 2304, zi 2304, zi 31, zi 48, zi 10, zi 10, .inr (2, [.ref 22]), zl 24, zi 24, zi 24, .inr (4, [.null, .null, .null, .int 0, .int 0, .null, .null, .int 0, .null, .null, .null, .int 0, .null, .null, .null])]) sz) := by
  intro ρ κ sz
  refine mc_Met (M := kqi_4) (L0 := [some (.ref 25), none]) (by decide +kernel) rfl (by decide) rfl koi_4 rfl ?_
  intro p e s m args below meth c A C hname hr hlocks hA
  have hT : ∀ w ∈ kG, w ∈ Cond.code kyi4 prog_6_method_1_code 2 none :: kG := fun w h => List.mem_cons_of_mem _ h
  refine mc_step C rfl (fun _ => rfl) rfl ?_
  refine mc_obj C rfl (hT _ kl_HoleCounterModel_1) (hT _ kobjI) (hT _ kobjC) (by decide) (by decide) rfl ?_
  refine mc_step C rfl (fun _ => rfl) rfl ?_
  refine mc_step C rfl (fun _ => rfl) rfl ?_
  refine mc_newa (ty := .boolean) (a0 := (512, .inl (fun _ => 0))) (N := 512) (N1 := 26) C rfl rfl (hT _ karrBool) (fun _ => rfl) (by decide) (by decide) (by decide) rfl (by decide) (by decide) rfl rfl ?_
  refine mc_putr (ci := 4) (j := 0) (N := 15) (Cn := kc4) (T := kf4) (ty0 := kt4) (ty := .array .boolean) C hname rfl rfl (by decide) (fun w h => hT w (kiG4 w h)) kto4 kn4 (hT _ kl_HoleCounterModel_7) rfl rfl (by decide +kernel) (fun _ => ⟨rfl, rfl⟩) rfl rfl rfl ?_
  refine mc_step C rfl (fun _ => rfl) rfl ?_
  refine mc_step C rfl (fun _ => rfl) rfl ?_
  refine mc_newa (ty := .int) (a0 := (512, .inl (fun _ => 0))) (N := 512) (N1 := 27) C rfl rfl (hT _ karrInt) (fun _ => rfl) (by decide) (by decide) (by decide) rfl (by decide) (by decide) rfl rfl ?_
  refine mc_putr (ci := 4) (j := 1) (N := 15) (Cn := kc4) (T := kf4) (ty0 := kt4) (ty := .array .int) C hname rfl rfl (by decide) (fun w h => hT w (kiG4 w h)) kto4 kn4 (hT _ kl_HoleCounterModel_13) rfl rfl (by decide +kernel) (fun _ => ⟨rfl, rfl⟩) rfl rfl rfl ?_
  refine mc_step C rfl (fun _ => rfl) rfl ?_
  refine mc_step C rfl (fun _ => rfl) rfl ?_
  refine mc_newa (ty := .int) (a0 := (8, .inl (fun _ => 0))) (N := 8) (N1 := 28) C rfl rfl (hT _ karrInt) (fun _ => rfl) (by decide) (by decide) (by decide) rfl (by decide) (by decide) rfl rfl ?_
  refine mc_putr (ci := 4) (j := 2) (N := 15) (Cn := kc4) (T := kf4) (ty0 := kt4) (ty := .array .int) C hname rfl rfl (by decide) (fun w h => hT w (kiG4 w h)) kto4 kn4 (hT _ kl_HoleCounterModel_17) rfl rfl (by decide +kernel) (fun _ => ⟨rfl, rfl⟩) rfl rfl rfl ?_
  refine mc_step C rfl (fun _ => rfl) rfl ?_
  refine mc_step C rfl (fun _ => rfl) rfl ?_
  refine mc_newa (ty := .long) (a0 := (2304, .inr (.inl (fun _ => 0)))) (N := 2304) (N1 := 29) C rfl rfl (hT _ karrLong) (fun _ => rfl) (by decide) (by decide) (by decide) rfl (by decide) (by decide) rfl rfl ?_
  refine mc_putr (ci := 4) (j := 5) (N := 15) (Cn := kc4) (T := kf4) (ty0 := kt4) (ty := .array .long) C hname rfl rfl (by decide) (fun w h => hT w (kiG4 w h)) kto4 kn4 (hT _ kl_HoleCounterModel_20) rfl rfl (by decide +kernel) (fun _ => ⟨rfl, rfl⟩) rfl rfl rfl ?_
  refine mc_step C rfl (fun _ => rfl) rfl ?_
  refine mc_step C rfl (fun _ => rfl) rfl ?_
  refine mc_newa (ty := .long) (a0 := (2304, .inr (.inl (fun _ => 0)))) (N := 2304) (N1 := 30) C rfl rfl (hT _ karrLong) (fun _ => rfl) (by decide) (by decide) (by decide) rfl (by decide) (by decide) rfl rfl ?_
  refine mc_putr (ci := 4) (j := 6) (N := 15) (Cn := kc4) (T := kf4) (ty0 := kt4) (ty := .array .long) C hname rfl rfl (by decide) (fun w h => hT w (kiG4 w h)) kto4 kn4 (hT _ kl_HoleCounterModel_24) rfl rfl (by decide +kernel) (fun _ => ⟨rfl, rfl⟩) rfl rfl rfl ?_
  refine mc_step C rfl (fun _ => rfl) rfl ?_
  refine mc_step C rfl (fun _ => rfl) rfl ?_
  refine mc_newa (ty := .long) (a0 := (48, .inr (.inl (fun _ => 0)))) (N := 48) (N1 := 31) C rfl rfl (hT _ karrLong) (fun _ => rfl) (by decide) (by decide) (by decide) rfl (by decide) (by decide) rfl rfl ?_
  refine mc_putr (ci := 4) (j := 8) (N := 15) (Cn := kc4) (T := kf4) (ty0 := kt4) (ty := .array .long) C hname rfl rfl (by decide) (fun w h => hT w (kiG4 w h)) kto4 kn4 (hT _ kl_HoleCounterModel_27) rfl rfl (by decide +kernel) (fun _ => ⟨rfl, rfl⟩) rfl rfl rfl ?_
  refine mc_step C rfl (fun _ => rfl) rfl ?_
  refine mc_step C rfl (fun _ => rfl) rfl ?_
  refine mc_newa (ty := .int) (a0 := (24, .inl (fun _ => 0))) (N := 24) (N1 := 32) C rfl rfl (hT _ karrInt) (fun _ => rfl) (by decide) (by decide) (by decide) rfl (by decide) (by decide) rfl rfl ?_
  refine mc_putr (ci := 4) (j := 9) (N := 15) (Cn := kc4) (T := kf4) (ty0 := kt4) (ty := .array .int) C hname rfl rfl (by decide) (fun w h => hT w (kiG4 w h)) kto4 kn4 (hT _ kl_HoleCounterModel_30) rfl rfl (by decide +kernel) (fun _ => ⟨rfl, rfl⟩) rfl rfl rfl ?_
  refine mc_step C rfl (fun _ => rfl) rfl ?_
  refine mc_step C rfl (fun _ => rfl) rfl ?_
  refine mc_newa (ty := .int) (a0 := (24, .inl (fun _ => 0))) (N := 24) (N1 := 33) C rfl rfl (hT _ karrInt) (fun _ => rfl) (by decide) (by decide) (by decide) rfl (by decide) (by decide) rfl rfl ?_
  refine mc_putr (ci := 4) (j := 10) (N := 15) (Cn := kc4) (T := kf4) (ty0 := kt4) (ty := .array .int) C hname rfl rfl (by decide) (fun w h => hT w (kiG4 w h)) kto4 kn4 (hT _ kl_HoleCounterModel_33) rfl rfl (by decide +kernel) (fun _ => ⟨rfl, rfl⟩) rfl rfl rfl ?_
  refine mc_step C rfl (fun _ => rfl) rfl ?_
  refine mc_step C rfl (fun _ => rfl) rfl ?_
  refine mc_newa (ty := .int) (a0 := (24, .inl (fun _ => 0))) (N := 24) (N1 := 34) C rfl rfl (hT _ karrInt) (fun _ => rfl) (by decide) (by decide) (by decide) rfl (by decide) (by decide) rfl rfl ?_
  refine mc_putr (ci := 4) (j := 12) (N := 15) (Cn := kc4) (T := kf4) (ty0 := kt4) (ty := .array .int) C hname rfl rfl (by decide) (fun w h => hT w (kiG4 w h)) kto4 kn4 (hT _ kl_HoleCounterModel_36) rfl rfl (by decide +kernel) (fun _ => ⟨rfl, rfl⟩) rfl rfl rfl ?_
  refine mc_step C rfl (fun _ => rfl) rfl ?_
  refine mc_step C rfl (fun _ => rfl) rfl ?_
  refine mc_newa (ty := .int) (a0 := (24, .inl (fun _ => 0))) (N := 24) (N1 := 35) C rfl rfl (hT _ karrInt) (fun _ => rfl) (by decide) (by decide) (by decide) rfl (by decide) (by decide) rfl rfl ?_
  refine mc_putr (ci := 4) (j := 13) (N := 15) (Cn := kc4) (T := kf4) (ty0 := kt4) (ty := .array .int) C hname rfl rfl (by decide) (fun w h => hT w (kiG4 w h)) kto4 kn4 (hT _ kl_HoleCounterModel_39) rfl rfl (by decide +kernel) (fun _ => ⟨rfl, rfl⟩) rfl rfl rfl ?_
  refine mc_step C rfl (fun _ => rfl) rfl ?_
  refine mc_step C rfl (fun _ => rfl) rfl ?_
  refine mc_newa (ty := .int) (a0 := (24, .inl (fun _ => 0))) (N := 24) (N1 := 36) C rfl rfl (hT _ karrInt) (fun _ => rfl) (by decide) (by decide) (by decide) rfl (by decide) (by decide) rfl rfl ?_
  refine mc_putr (ci := 4) (j := 14) (N := 15) (Cn := kc4) (T := kf4) (ty0 := kt4) (ty := .array .int) C hname rfl rfl (by decide) (fun w h => hT w (kiG4 w h)) kto4 kn4 (hT _ kl_HoleCounterModel_42) rfl rfl (by decide +kernel) (fun _ => ⟨rfl, rfl⟩) rfl rfl rfl ?_
  refine mc_step C rfl (fun _ => rfl) rfl ?_
  refine mc_step C rfl (fun _ => rfl) rfl ?_
  have e0 : ([.inr (3, [.ref 1, .ref 7, .ref 13, .ref 14, .ref 21, .ref 23, .ref 24]), .inr (0, [.ref 2, .ref 3, .ref 4, .ref 5, .ref 6]), .inl (.int, 256, .inl (x_fill (fun _ => 0) (-1) 256)), zi 256, zi 4, zi 96, zi 4, .inr (0, [.ref 8, .ref 9, .ref 10, .ref 11, .ref 12]), .inl (.int, 256, .inl (x_fill (fun _ => 0) (-1) 256)), zi 256, zi 4, zi 96, zi 4, .inl (.int, 8, .inl (x_idn 8)), .inr (1, [.ref 15, .ref 16, .ref 17, .ref 18, .ref 19, .ref 20, .int 0, .int 0, .int 2147483647, .long 0, .int 0]), zi 2304, zi 2304, zi 31, zi 48, zi 10, zi 10, .inr (2, [.ref 22]), zl 24, zi 24, zi 24, .inr (4, [.ref 26, .ref 27, .ref 28, .int 0, .int 0, .ref 29, .ref 30, .int 0, .ref 31, .ref 32, .ref 33, .int 0, .ref 34, .ref 35, .ref 36]), zb 512, zi 512, zi 8, zl 2304, zl 2304, zl 48, zi 24, zi 24, zi 24, zi 24, zi 24] : mm_H) = (fun t : Nat => ([.inr (3, [.ref 1, .ref 7, .ref 13, .ref 14, .ref 21, .ref 23, .ref 24]), .inr (0, [.ref 2, .ref 3, .ref 4, .ref 5, .ref 6]), .inl (.int, 256, .inl (x_fill (fun _ => 0) (-1) 256)), zi 256, zi 4, zi 96, zi 4, .inr (0, [.ref 8, .ref 9, .ref 10, .ref 11, .ref 12]), .inl (.int, 256, .inl (x_fill (fun _ => 0) (-1) 256)), zi 256, zi 4, zi 96, zi 4, .inl (.int, 8, .inl (x_idn 8)), .inr (1, [.ref 15, .ref 16, .ref 17, .ref 18, .ref 19, .ref 20, .int 0, .int 0, .int 2147483647, .long 0, .int 0]), zi 2304, zi 2304, zi 31, zi 48, zi 10, zi 10, .inr (2, [.ref 22]), zl 24, zi 24, zi 24, .inr (4, [.ref 26, .ref 27, .ref 28, .int 0, .int 0, .ref 29, .ref 30, .int 0, .ref 31, .ref 32, .ref 33, .int 0, .ref 34, .ref 35, .ref 36]), zb 512, zi 512, .inl (.int, 8, .inl (x_idn t)), zl 2304, zl 2304, zl 48, zi 24, zi 24, zi 24, zi 24, zi 24] : mm_H)) 0 := by
    show _ = ([.inr (3, [.ref 1, .ref 7, .ref 13, .ref 14, .ref 21, .ref 23, .ref 24]), .inr (0, [.ref 2, .ref 3, .ref 4, .ref 5, .ref 6]), .inl (.int, 256, .inl (x_fill (fun _ => 0) (-1) 256)), zi 256, zi 4, zi 96, zi 4, .inr (0, [.ref 8, .ref 9, .ref 10, .ref 11, .ref 12]), .inl (.int, 256, .inl (x_fill (fun _ => 0) (-1) 256)), zi 256, zi 4, zi 96, zi 4, .inl (.int, 8, .inl (x_idn 8)), .inr (1, [.ref 15, .ref 16, .ref 17, .ref 18, .ref 19, .ref 20, .int 0, .int 0, .int 2147483647, .long 0, .int 0]), zi 2304, zi 2304, zi 31, zi 48, zi 10, zi 10, .inr (2, [.ref 22]), zl 24, zi 24, zi 24, .inr (4, [.ref 26, .ref 27, .ref 28, .int 0, .int 0, .ref 29, .ref 30, .int 0, .ref 31, .ref 32, .ref 33, .int 0, .ref 34, .ref 35, .ref 36]), zb 512, zi 512, .inl (.int, 8, .inl (x_idn 0)), zl 2304, zl 2304, zl 48, zi 24, zi 24, zi 24, zi 24, zi 24] : mm_H)
    rw [x_idn_0]
  refine mc_eqh e0 ?_
  have loop : ∀ (cells slots : Nat), mc_J p l e kri_4 s m args below meth c (MQ below (mc_Post D ρ κ b [.inr (3, [.ref 1, .ref 7, .ref 13, .ref 14, .ref 21, .ref 23, .ref 24]), .inr (0, [.ref 2, .ref 3, .ref 4, .ref 5, .ref 6]), .inl (.int, 256, .inl (x_fill (fun _ => 0) (-1) 256)), zi 256, zi 4, zi 96, zi 4, .inr (0, [.ref 8, .ref 9, .ref 10, .ref 11, .ref 12]), .inl (.int, 256, .inl (x_fill (fun _ => 0) (-1) 256)), zi 256, zi 4, zi 96, zi 4, .inl (.int, 8, .inl (x_idn 8)), .inr (1, [.ref 15, .ref 16, .ref 17, .ref 18, .ref 19, .ref 20, .int 0, .int 0, .int 2147483647, .long 0, .int 0]), zi 2304, zi 2304, zi 31, zi 48, zi 10, zi 10, .inr (2, [.ref 22]), zl 24, zi 24, zi 24, .inr (4, [.null, .null, .null, .int 0, .int 0, .null, .null, .int 0, .null, .null, .null, .int 0, .null, .null, .null])] [.inr (3, [.ref 1, .ref 7, .ref 13, .ref 14, .ref 21, .ref 23, .ref 24]), .inr (0, [.ref 2, .ref 3, .ref 4, .ref 5, .ref 6]), .inl (.int, 256, .inl (x_fill (fun _ => 0) (-1) 256)), zi 256, zi 4, zi 96, zi 4, .inr (0, [.ref 8, .ref 9, .ref 10, .ref 11, .ref 12]), .inl (.int, 256, .inl (x_fill (fun _ => 0) (-1) 256)), zi 256, zi 4, zi 96, zi 4, .inl (.int, 8, .inl (x_idn 8)), .inr (1, [.ref 15, .ref 16, .ref 17, .ref 18, .ref 19, .ref 20, .int 0, .int 0, .int 2147483647, .long 0, .int 0]), zi 2304, zi 2304, zi 31, zi 48, zi 10, zi 10, .inr (2, [.ref 22]), zl 24, zi 24, zi 24, .inr (4, [.ref 26, .ref 27, .ref 28, .int 0, .int 0, .ref 29, .ref 30, .int 0, .ref 31, .ref 32, .ref 33, .int 0, .ref 34, .ref 35, .ref 36]), zb 512, zi 512, .inl (.int, 8, .inl (x_idn 8)), zl 2304, zl 2304, zl 48, zi 24, zi 24, zi 24, zi 24, zi 24] s.heap.size) args s 11 5808 (va_A (mm_rep ρ κ b [.inr (3, [.ref 1, .ref 7, .ref 13, .ref 14, .ref 21, .ref 23, .ref 24]), .inr (0, [.ref 2, .ref 3, .ref 4, .ref 5, .ref 6]), .inl (.int, 256, .inl (x_fill (fun _ => 0) (-1) 256)), zi 256, zi 4, zi 96, zi 4, .inr (0, [.ref 8, .ref 9, .ref 10, .ref 11, .ref 12]), .inl (.int, 256, .inl (x_fill (fun _ => 0) (-1) 256)), zi 256, zi 4, zi 96, zi 4, .inl (.int, 8, .inl (x_idn 8)), .inr (1, [.ref 15, .ref 16, .ref 17, .ref 18, .ref 19, .ref 20, .int 0, .int 0, .int 2147483647, .long 0, .int 0]), zi 2304, zi 2304, zi 31, zi 48, zi 10, zi 10, .inr (2, [.ref 22]), zl 24, zi 24, zi 24, .inr (4, [.null, .null, .null, .int 0, .int 0, .null, .null, .int 0, .null, .null, .null, .int 0, .null, .null, .null])]) s.heap.size)) D A b 2 (List.length (α := mm_C) [.inr (3, [.ref 1, .ref 7, .ref 13, .ref 14, .ref 21, .ref 23, .ref 24]), .inr (0, [.ref 2, .ref 3, .ref 4, .ref 5, .ref 6]), .inl (.int, 256, .inl (x_fill (fun _ => 0) (-1) 256)), zi 256, zi 4, zi 96, zi 4, .inr (0, [.ref 8, .ref 9, .ref 10, .ref 11, .ref 12]), .inl (.int, 256, .inl (x_fill (fun _ => 0) (-1) 256)), zi 256, zi 4, zi 96, zi 4, .inl (.int, 8, .inl (x_idn 8)), .inr (1, [.ref 15, .ref 16, .ref 17, .ref 18, .ref 19, .ref 20, .int 0, .int 0, .int 2147483647, .long 0, .int 0]), zi 2304, zi 2304, zi 31, zi 48, zi 10, zi 10, .inr (2, [.ref 22]), zl 24, zi 24, zi 24, .inr (4, [.null, .null, .null, .int 0, .int 0, .null, .null, .int 0, .null, .null, .null, .int 0, .null, .null, .null])]) ρ κ cells slots 117 [some (.ref 25), some (.int (nI 8))] [] [.inr (3, [.ref 1, .ref 7, .ref 13, .ref 14, .ref 21, .ref 23, .ref 24]), .inr (0, [.ref 2, .ref 3, .ref 4, .ref 5, .ref 6]), .inl (.int, 256, .inl (x_fill (fun _ => 0) (-1) 256)), zi 256, zi 4, zi 96, zi 4, .inr (0, [.ref 8, .ref 9, .ref 10, .ref 11, .ref 12]), .inl (.int, 256, .inl (x_fill (fun _ => 0) (-1) 256)), zi 256, zi 4, zi 96, zi 4, .inl (.int, 8, .inl (x_idn 8)), .inr (1, [.ref 15, .ref 16, .ref 17, .ref 18, .ref 19, .ref 20, .int 0, .int 0, .int 2147483647, .long 0, .int 0]), zi 2304, zi 2304, zi 31, zi 48, zi 10, zi 10, .inr (2, [.ref 22]), zl 24, zi 24, zi 24, .inr (4, [.ref 26, .ref 27, .ref 28, .int 0, .int 0, .ref 29, .ref 30, .int 0, .ref 31, .ref 32, .ref 33, .int 0, .ref 34, .ref 35, .ref 36]), zb 512, zi 512, .inl (.int, 8, .inl (x_idn 8)), zl 2304, zl 2304, zl 48, zi 24, zi 24, zi 24, zi 24, zi 24] → ∀ (d t : Nat), t + d = 8 → mc_J p l e kri_4 s m args below meth c (MQ below (mc_Post D ρ κ b [.inr (3, [.ref 1, .ref 7, .ref 13, .ref 14, .ref 21, .ref 23, .ref 24]), .inr (0, [.ref 2, .ref 3, .ref 4, .ref 5, .ref 6]), .inl (.int, 256, .inl (x_fill (fun _ => 0) (-1) 256)), zi 256, zi 4, zi 96, zi 4, .inr (0, [.ref 8, .ref 9, .ref 10, .ref 11, .ref 12]), .inl (.int, 256, .inl (x_fill (fun _ => 0) (-1) 256)), zi 256, zi 4, zi 96, zi 4, .inl (.int, 8, .inl (x_idn 8)), .inr (1, [.ref 15, .ref 16, .ref 17, .ref 18, .ref 19, .ref 20, .int 0, .int 0, .int 2147483647, .long 0, .int 0]), zi 2304, zi 2304, zi 31, zi 48, zi 10, zi 10, .inr (2, [.ref 22]), zl 24, zi 24, zi 24, .inr (4, [.null, .null, .null, .int 0, .int 0, .null, .null, .int 0, .null, .null, .null, .int 0, .null, .null, .null])] [.inr (3, [.ref 1, .ref 7, .ref 13, .ref 14, .ref 21, .ref 23, .ref 24]), .inr (0, [.ref 2, .ref 3, .ref 4, .ref 5, .ref 6]), .inl (.int, 256, .inl (x_fill (fun _ => 0) (-1) 256)), zi 256, zi 4, zi 96, zi 4, .inr (0, [.ref 8, .ref 9, .ref 10, .ref 11, .ref 12]), .inl (.int, 256, .inl (x_fill (fun _ => 0) (-1) 256)), zi 256, zi 4, zi 96, zi 4, .inl (.int, 8, .inl (x_idn 8)), .inr (1, [.ref 15, .ref 16, .ref 17, .ref 18, .ref 19, .ref 20, .int 0, .int 0, .int 2147483647, .long 0, .int 0]), zi 2304, zi 2304, zi 31, zi 48, zi 10, zi 10, .inr (2, [.ref 22]), zl 24, zi 24, zi 24, .inr (4, [.ref 26, .ref 27, .ref 28, .int 0, .int 0, .ref 29, .ref 30, .int 0, .ref 31, .ref 32, .ref 33, .int 0, .ref 34, .ref 35, .ref 36]), zb 512, zi 512, .inl (.int, 8, .inl (x_idn 8)), zl 2304, zl 2304, zl 48, zi 24, zi 24, zi 24, zi 24, zi 24] s.heap.size) args s 11 5808 (va_A (mm_rep ρ κ b [.inr (3, [.ref 1, .ref 7, .ref 13, .ref 14, .ref 21, .ref 23, .ref 24]), .inr (0, [.ref 2, .ref 3, .ref 4, .ref 5, .ref 6]), .inl (.int, 256, .inl (x_fill (fun _ => 0) (-1) 256)), zi 256, zi 4, zi 96, zi 4, .inr (0, [.ref 8, .ref 9, .ref 10, .ref 11, .ref 12]), .inl (.int, 256, .inl (x_fill (fun _ => 0) (-1) 256)), zi 256, zi 4, zi 96, zi 4, .inl (.int, 8, .inl (x_idn 8)), .inr (1, [.ref 15, .ref 16, .ref 17, .ref 18, .ref 19, .ref 20, .int 0, .int 0, .int 2147483647, .long 0, .int 0]), zi 2304, zi 2304, zi 31, zi 48, zi 10, zi 10, .inr (2, [.ref 22]), zl 24, zi 24, zi 24, .inr (4, [.null, .null, .null, .int 0, .int 0, .null, .null, .int 0, .null, .null, .null, .int 0, .null, .null, .null])]) s.heap.size)) D A b 2 (List.length (α := mm_C) [.inr (3, [.ref 1, .ref 7, .ref 13, .ref 14, .ref 21, .ref 23, .ref 24]), .inr (0, [.ref 2, .ref 3, .ref 4, .ref 5, .ref 6]), .inl (.int, 256, .inl (x_fill (fun _ => 0) (-1) 256)), zi 256, zi 4, zi 96, zi 4, .inr (0, [.ref 8, .ref 9, .ref 10, .ref 11, .ref 12]), .inl (.int, 256, .inl (x_fill (fun _ => 0) (-1) 256)), zi 256, zi 4, zi 96, zi 4, .inl (.int, 8, .inl (x_idn 8)), .inr (1, [.ref 15, .ref 16, .ref 17, .ref 18, .ref 19, .ref 20, .int 0, .int 0, .int 2147483647, .long 0, .int 0]), zi 2304, zi 2304, zi 31, zi 48, zi 10, zi 10, .inr (2, [.ref 22]), zl 24, zi 24, zi 24, .inr (4, [.null, .null, .null, .int 0, .int 0, .null, .null, .int 0, .null, .null, .null, .int 0, .null, .null, .null])]) ρ κ cells slots 98 [some (.ref 25), some (.int (nI t))] [] ((fun t : Nat => ([.inr (3, [.ref 1, .ref 7, .ref 13, .ref 14, .ref 21, .ref 23, .ref 24]), .inr (0, [.ref 2, .ref 3, .ref 4, .ref 5, .ref 6]), .inl (.int, 256, .inl (x_fill (fun _ => 0) (-1) 256)), zi 256, zi 4, zi 96, zi 4, .inr (0, [.ref 8, .ref 9, .ref 10, .ref 11, .ref 12]), .inl (.int, 256, .inl (x_fill (fun _ => 0) (-1) 256)), zi 256, zi 4, zi 96, zi 4, .inl (.int, 8, .inl (x_idn 8)), .inr (1, [.ref 15, .ref 16, .ref 17, .ref 18, .ref 19, .ref 20, .int 0, .int 0, .int 2147483647, .long 0, .int 0]), zi 2304, zi 2304, zi 31, zi 48, zi 10, zi 10, .inr (2, [.ref 22]), zl 24, zi 24, zi 24, .inr (4, [.ref 26, .ref 27, .ref 28, .int 0, .int 0, .ref 29, .ref 30, .int 0, .ref 31, .ref 32, .ref 33, .int 0, .ref 34, .ref 35, .ref 36]), zb 512, zi 512, .inl (.int, 8, .inl (x_idn t)), zl 2304, zl 2304, zl 48, zi 24, zi 24, zi 24, zi 24, zi 24] : mm_H)) t) := by
    intro cells slots after d
    induction d with
    | zero =>
      intro t ht
      have : t = 8 := by omega
      subst this
      refine mc_step C rfl (fun _ => rfl) rfl ?_
      refine mc_step C rfl (fun _ => rfl) rfl ?_
      refine mc_step C rfl (fun _ => rfl) rfl ?_
      exact after
    | succ d ih =>
      intro t ht
      refine mc_step C rfl (fun _ => rfl) rfl ?_
      refine mc_step C rfl (fun _ => rfl) rfl ?_
      refine mc_step C rfl (fun _ => if_neg (nI_ge (a := t) (b := 8) (by omega) (by decide))) rfl ?_
      refine mc_step C rfl (fun _ => rfl) rfl ?_
      refine mc_step C rfl (fun _ => rfl) rfl ?_
      refine mc_step C rfl (fun _ => rfl) rfl ?_
      refine mc_step C rfl (fun _ => rfl) rfl ?_
      refine mc_step C rfl (fun _ => if_pos (mm_bd (by omega) (by decide))) rfl ?_
      refine mc_step C rfl (fun _ => rfl) rfl ?_
      refine mc_step C rfl (fun _ => rfl) rfl ?_
      have z := ih (t + 1) (by omega)
      rw [← nI_1] at z
      refine mc_eqh ?_ z
      show _ = (fun t : Nat => ([.inr (3, [.ref 1, .ref 7, .ref 13, .ref 14, .ref 21, .ref 23, .ref 24]), .inr (0, [.ref 2, .ref 3, .ref 4, .ref 5, .ref 6]), .inl (.int, 256, .inl (x_fill (fun _ => 0) (-1) 256)), zi 256, zi 4, zi 96, zi 4, .inr (0, [.ref 8, .ref 9, .ref 10, .ref 11, .ref 12]), .inl (.int, 256, .inl (x_fill (fun _ => 0) (-1) 256)), zi 256, zi 4, zi 96, zi 4, .inl (.int, 8, .inl (x_idn 8)), .inr (1, [.ref 15, .ref 16, .ref 17, .ref 18, .ref 19, .ref 20, .int 0, .int 0, .int 2147483647, .long 0, .int 0]), zi 2304, zi 2304, zi 31, zi 48, zi 10, zi 10, .inr (2, [.ref 22]), zl 24, zi 24, zi 24, .inr (4, [.ref 26, .ref 27, .ref 28, .int 0, .int 0, .ref 29, .ref 30, .int 0, .ref 31, .ref 32, .ref 33, .int 0, .ref 34, .ref 35, .ref 36]), zb 512, zi 512, .inl (.int, 8, .inl (x_idn t)), zl 2304, zl 2304, zl 48, zi 24, zi 24, zi 24, zi 24, zi 24] : mm_H)) (t + 1)
      simp only [← x_idn_s]
      rw [mm_cl (by omega)]
  refine loop _ _ ?_ 8 0 rfl
  exact mc_ret C rfl hr hlocks hA
