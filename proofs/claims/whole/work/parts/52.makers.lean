theorem h_tE {α β : Type} {e : α} {g : α → β} {z : β} (hF : h_t e g = z) : ∃ f5, f5 = e ∧ g f5 = z := ⟨e, rfl, hF⟩
theorem df_X8 {B : Nat} : ∀ j, j < 2 → defaultValue (tyX8 j) = h_v B (([(2, 0), (0, 0)] : List (Nat × Nat)).getD j (2, 0)) := fun j hj => match j, hj with
  | 0, _ => rfl
  | 1, _ => rfl
  | k + 2, h => absurd h (by omega)
theorem df_X2 {B : Nat} : ∀ j, j < 12 → defaultValue (tyX2 j) = h_v B (([(2, 0), (2, 0), (2, 0), (2, 0), (2, 0), (2, 0), (2, 0), (0, 0), (0, 0), (0, 0), (0, 0), (0, 0)] : List (Nat × Nat)).getD j (2, 0)) := fun j hj => match j, hj with
  | 0, _ => rfl
  | 1, _ => rfl
  | 2, _ => rfl
  | 3, _ => rfl
  | 4, _ => rfl
  | 5, _ => rfl
  | 6, _ => rfl
  | 7, _ => rfl
  | 8, _ => rfl
  | 9, _ => rfl
  | 10, _ => rfl
  | 11, _ => rfl
  | k + 12, h => absurd h (by omega)
theorem df_X9 {B : Nat} : ∀ j, j < 4 → defaultValue (tyX9 j) = h_v B (([(2, 0), (2, 0), (2, 0), (0, 0)] : List (Nat × Nat)).getD j (2, 0)) := fun j hj => match j, hj with
  | 0, _ => rfl
  | 1, _ => rfl
  | 2, _ => rfl
  | 3, _ => rfl
  | k + 4, h => absurd h (by omega)
theorem df_X5 {B : Nat} : ∀ j, j < 6 → defaultValue (tyX5 j) = h_v B (([(2, 0), (2, 0), (0, 0), (0, 0), (0, 0), (0, 0)] : List (Nat × Nat)).getD j (2, 0)) := fun j hj => match j, hj with
  | 0, _ => rfl
  | 1, _ => rfl
  | 2, _ => rfl
  | 3, _ => rfl
  | 4, _ => rfl
  | 5, _ => rfl
  | k + 6, h => absurd h (by omega)
theorem df_X4 {B : Nat} : ∀ j, j < 8 → defaultValue (tyX4 j) = h_v B (([(2, 0), (2, 0), (0, 0), (0, 0), (0, 0), (0, 0), (0, 0), (0, 0)] : List (Nat × Nat)).getD j (2, 0)) := fun j hj => match j, hj with
  | 0, _ => rfl
  | 1, _ => rfl
  | 2, _ => rfl
  | 3, _ => rfl
  | 4, _ => rfl
  | 5, _ => rfl
  | 6, _ => rfl
  | 7, _ => rfl
  | k + 8, h => absurd h (by omega)
theorem df_X1 {B : Nat} : ∀ j, j < 9 → defaultValue (tyX1 j) = h_v B (([(2, 0), (2, 0), (2, 0), (2, 0), (2, 0), (2, 0), (0, 0), (0, 0), (0, 0)] : List (Nat × Nat)).getD j (2, 0)) := fun j hj => match j, hj with
  | 0, _ => rfl
  | 1, _ => rfl
  | 2, _ => rfl
  | 3, _ => rfl
  | 4, _ => rfl
  | 5, _ => rfl
  | 6, _ => rfl
  | 7, _ => rfl
  | 8, _ => rfl
  | k + 9, h => absurd h (by omega)
theorem df_X6 {B : Nat} : ∀ j, j < 1 → defaultValue (tyX6 j) = h_v B (([(2, 0)] : List (Nat × Nat)).getD j (2, 0)) := fun j hj => match j, hj with
  | 0, _ => rfl
  | k + 1, h => absurd h (by omega)
theorem df_X0 {B : Nat} : ∀ j, j < 9 → defaultValue (tyX0 j) = h_v B (([(2, 0), (2, 0), (2, 0), (2, 0), (0, 0), (0, 0), (2, 0), (2, 0), (0, 0)] : List (Nat × Nat)).getD j (2, 0)) := fun j hj => match j, hj with
  | 0, _ => rfl
  | 1, _ => rfl
  | 2, _ => rfl
  | 3, _ => rfl
  | 4, _ => rfl
  | 5, _ => rfl
  | 6, _ => rfl
  | 7, _ => rfl
  | 8, _ => rfl
  | k + 9, h => absurd h (by omega)
theorem df_X3 {B : Nat} : ∀ j, j < 2 → defaultValue (tyX3 j) = h_v B (([(2, 0), (0, 0)] : List (Nat × Nat)).getD j (2, 0)) := fun j hj => match j, hj with
  | 0, _ => rfl
  | 1, _ => rfl
  | k + 2, h => absurd h (by omega)
theorem df_X10 {B : Nat} : ∀ j, j < 9 → defaultValue (tyX10 j) = h_v B (([(2, 0), (2, 0), (2, 0), (2, 0), (2, 0), (2, 0), (0, 0), (0, 0), (0, 0)] : List (Nat × Nat)).getD j (2, 0)) := fun j hj => match j, hj with
  | 0, _ => rfl
  | 1, _ => rfl
  | 2, _ => rfl
  | 3, _ => rfl
  | 4, _ => rfl
  | 5, _ => rfl
  | 6, _ => rfl
  | 7, _ => rfl
  | 8, _ => rfl
  | k + 9, h => absurd h (by omega)
theorem df_X11 {B : Nat} : ∀ j, j < 11 → defaultValue (tyX11 j) = h_v B (([(2, 0), (2, 0), (2, 0), (2, 0), (2, 0), (2, 0), (2, 0), (2, 0), (2, 0), (2, 0), (0, 0)] : List (Nat × Nat)).getD j (2, 0)) := fun j hj => match j, hj with
  | 0, _ => rfl
  | 1, _ => rfl
  | 2, _ => rfl
  | 3, _ => rfl
  | 4, _ => rfl
  | 5, _ => rfl
  | 6, _ => rfl
  | 7, _ => rfl
  | 8, _ => rfl
  | 9, _ => rfl
  | 10, _ => rfl
  | k + 11, h => absurd h (by omega)
theorem df_X12 {B : Nat} : ∀ j, j < 46 → defaultValue (tyX12 j) = h_v B (([(0, 0), (2, 0), (2, 0), (2, 0), (0, 0), (0, 0), (2, 0), (2, 0), (2, 0), (2, 0), (2, 0), (2, 0), (2, 0), (2, 0), (0, 0), (0, 0), (0, 0), (0, 0), (0, 0), (0, 0), (2, 0), (0, 0), (2, 0), (2, 0), (0, 0), (0, 0), (2, 0), (2, 0), (0, 0), (0, 0), (2, 0), (0, 0), (0, 0), (0, 0), (0, 0), (0, 0), (2, 0), (2, 0), (2, 0), (2, 0), (2, 0), (2, 0), (0, 0), (2, 0), (2, 0), (2, 0)] : List (Nat × Nat)).getD j (2, 0)) := fun j hj => match j, hj with
  | 0, _ => rfl
  | 1, _ => rfl
  | 2, _ => rfl
  | 3, _ => rfl
  | 4, _ => rfl
  | 5, _ => rfl
  | 6, _ => rfl
  | 7, _ => rfl
  | 8, _ => rfl
  | 9, _ => rfl
  | 10, _ => rfl
  | 11, _ => rfl
  | 12, _ => rfl
  | 13, _ => rfl
  | 14, _ => rfl
  | 15, _ => rfl
  | 16, _ => rfl
  | 17, _ => rfl
  | 18, _ => rfl
  | 19, _ => rfl
  | 20, _ => rfl
  | 21, _ => rfl
  | 22, _ => rfl
  | 23, _ => rfl
  | 24, _ => rfl
  | 25, _ => rfl
  | 26, _ => rfl
  | 27, _ => rfl
  | 28, _ => rfl
  | 29, _ => rfl
  | 30, _ => rfl
  | 31, _ => rfl
  | 32, _ => rfl
  | 33, _ => rfl
  | 34, _ => rfl
  | 35, _ => rfl
  | 36, _ => rfl
  | 37, _ => rfl
  | 38, _ => rfl
  | 39, _ => rfl
  | 40, _ => rfl
  | 41, _ => rfl
  | 42, _ => rfl
  | 43, _ => rfl
  | 44, _ => rfl
  | 45, _ => rfl
  | k + 46, h => absurd h (by omega)
-- ===== the making of TwoCards$Tape
theorem jd_X8_init : yX8_init.cls ≠ "java/lang/invoke/MethodHandle" ∧ yX8_init.cls ≠ "java/lang/invoke/VarHandle" ∧ (parseMethodDescriptor yX8_init.desc).map (fun d => d.parameters.length) = some 0 := by decide +kernel
abbrev rmX8_init : Room := { frames := 1, cells := 1, slots := 400, locals := 20 }
abbrev wqX8_init : List Cond := .code yX8_init cX8_init 1 none :: wsL_law
def gX8_init (n : Nat) (f : FH) (a : Nat) : FH := h_t (h_u f (n) (1, 0, [(0, 400)])) fun f1 => h_t (h_p f1 a 0 (1, n)) fun f4 => f4
set_option maxRecDepth 100000 in
set_option maxHeartbeats 8000000 in
theorem wX8_init {n a : Nat} {f f1 : FH} (hO : isO f n a 7) (hF : gX8_init n f a = f1) : h_K f n a f1 := by
  unfold gX8_init at hF
  obtain ⟨f1, h2, hF⟩ := h_tE hF
  have Oq3 : isO f1 (n + 1) a 7 := by rw [h2]; exact hO.new
  have Kq3 : h_K f n a f1 := by rw [h2]; exact (h_K.rf (f := f) (n := n) (a := a)).new (by omega) hO.1
  obtain ⟨f4, h5, hF⟩ := h_tE hF
  have Oq6 : isO f4 (n + 1) a 7 := by rw [h5]; exact Oq3.put
  have Kq6 : h_K f n a f4 := by rw [h5]; exact Kq3.put
  subst hF
  exact Kq6
set_option maxRecDepth 100000 in
set_option maxHeartbeats 8000000 in
theorem kX8_init (l : Launch) {y : Ly} {B n a : Nat} {f f1 : FH} (hO : isO f n a 7) (hF : gX8_init n f a = f1) : Met l yX8_init wqX8_init rmX8_init (h_P y B [.ref (B + a)] n f) (h_E y B (n + 1) f1) 1 400 (h_A B) := by
  refine c_met (by decide) rfl rfl rfl (fun x K hQ => ?_)
  unfold gX8_init at hF
  refine c_aload_n (pc := 0) (n := n) (cells := 0) (slots := 0) K dX8_init_0 0 rfl ?_
  refine c_objInit (pc := 1) (n := n) (cells := 0) (slots := 0) K (List.mem_cons_of_mem _ jl_X8_3) (List.mem_cons_of_mem _ jw_i_objectInit) (List.mem_cons_of_mem _ jw_c_objectInit) dX8_init_1 (Nat.le_of_ble_eq_true rfl) (Nat.le_of_ble_eq_true rfl) ?_
  refine c_aload_n (pc := 4) (n := n) (cells := 0) (slots := 0) K dX8_init_4 0 rfl ?_
  refine c_sipush (pc := 5) (n := n) (cells := 0) (slots := 0) (v := 400) K dX8_init_5 rfl ?_
  refine c_newa (pc := 8) (n := n) (cells := 0) (slots := 0) (atype := .int) (ty := .int) K 0 400 rfl rfl rfl (fun _ _ => rfl) (List.mem_cons_of_mem _ jw_y_int) (by decide) (by decide) (Nat.le_of_ble_eq_true rfl) (Nat.le_of_ble_eq_true rfl) (Nat.le_of_ble_eq_true rfl) dX8_init_8 ?_
  refine c_nm hF (fun f1 h2 hF => ?_)
  have Oq3 : isO f1 (n + 1) a 7 := by rw [h2]; exact hO.new
  have Kq3 : h_K f n a f1 := by rw [h2]; exact (h_K.rf (f := f) (n := n) (a := a)).new (by omega) hO.1
  refine c_put (pc := 10) (n := n + 1) (cells := 1) (slots := 400) (C := RX8) (T := TX8) (N := 2) (j := 0) (ty := tyX8 0) K (1, n) hQ.2.2.2.1 Oq3 rfl rfl jn_X8 tyX8 tyX8_ok nmX8 (by decide) (List.mem_cons_of_mem _ jl_X8_9) (Or.inr ⟨rfl, rfl⟩) (tyX8_ok 0 (by decide)) rfl rfl rfl dX8_init_10 ?_
  refine c_nm hF (fun f4 h5 hF => ?_)
  have Oq6 : isO f4 (n + 1) a 7 := by rw [h5]; exact Oq3.put
  have Kq6 : h_K f n a f4 := by rw [h5]; exact Kq3.put
  subst hF
  exact c_ret (pc := 13) K hQ dX8_init_13
-- ===== the making of TwoCards$Code
theorem jd_X2_init : yX2_init.cls ≠ "java/lang/invoke/MethodHandle" ∧ yX2_init.cls ≠ "java/lang/invoke/VarHandle" ∧ (parseMethodDescriptor yX2_init.desc).map (fun d => d.parameters.length) = some 0 := by decide +kernel
abbrev rmX2_init : Room := { frames := 1, cells := 7, slots := 390, locals := 20 }
abbrev wqX2_init : List Cond := .code yX2_init cX2_init 1 none :: wsL_law
def gX2_init (n : Nat) (f : FH) (a : Nat) : FH := h_t (h_u f (n) (1, 0, [(0, 14)])) fun f1 => h_t (h_p f1 a 0 (1, n)) fun f4 => h_t (h_u f4 (n + 1) (1, 0, [(0, 14)])) fun f7 => h_t (h_p f7 a 1 (1, (n + 1))) fun f10 => h_t (h_u f10 (n + 2) (1, 0, [(0, 14)])) fun f13 => h_t (h_p f13 a 2 (1, (n + 2))) fun f16 => h_t (h_u f16 (n + 3) (1, 0, [(0, 14)])) fun f19 => h_t (h_p f19 a 3 (1, (n + 3))) fun f22 => h_t (h_u f22 (n + 4) (1, 0, [(0, 14)])) fun f25 => h_t (h_p f25 a 4 (1, (n + 4))) fun f28 => h_t (h_u f28 (n + 5) (1, 0, [(0, 256)])) fun f31 => h_t (h_p f31 a 5 (1, (n + 5))) fun f34 => h_t (h_u f34 (n + 6) (1, 0, [(0, 64)])) fun f37 => h_t (h_p f37 a 6 (1, (n + 6))) fun f40 => h_t (h_p f40 a 9 (0, 1)) fun f43 => h_t (h_p f43 a 10 (0, 6)) fun f46 => h_t (h_p f46 a 11 (0, 1)) fun f49 => f49
set_option maxRecDepth 100000 in
set_option maxHeartbeats 8000000 in
theorem wX2_init {n a : Nat} {f f1 : FH} (hO : isO f n a 2) (hF : gX2_init n f a = f1) : h_K f n a f1 := by
  unfold gX2_init at hF
  obtain ⟨f1, h2, hF⟩ := h_tE hF
  have Oq3 : isO f1 (n + 1) a 2 := by rw [h2]; exact hO.new
  have Kq3 : h_K f n a f1 := by rw [h2]; exact (h_K.rf (f := f) (n := n) (a := a)).new (by omega) hO.1
  obtain ⟨f4, h5, hF⟩ := h_tE hF
  have Oq6 : isO f4 (n + 1) a 2 := by rw [h5]; exact Oq3.put
  have Kq6 : h_K f n a f4 := by rw [h5]; exact Kq3.put
  obtain ⟨f7, h8, hF⟩ := h_tE hF
  have Oq9 : isO f7 (n + 2) a 2 := by rw [h8]; exact Oq6.new
  have Kq9 : h_K f n a f7 := by rw [h8]; exact Kq6.new (by omega) hO.1
  obtain ⟨f10, h11, hF⟩ := h_tE hF
  have Oq12 : isO f10 (n + 2) a 2 := by rw [h11]; exact Oq9.put
  have Kq12 : h_K f n a f10 := by rw [h11]; exact Kq9.put
  obtain ⟨f13, h14, hF⟩ := h_tE hF
  have Oq15 : isO f13 (n + 3) a 2 := by rw [h14]; exact Oq12.new
  have Kq15 : h_K f n a f13 := by rw [h14]; exact Kq12.new (by omega) hO.1
  obtain ⟨f16, h17, hF⟩ := h_tE hF
  have Oq18 : isO f16 (n + 3) a 2 := by rw [h17]; exact Oq15.put
  have Kq18 : h_K f n a f16 := by rw [h17]; exact Kq15.put
  obtain ⟨f19, h20, hF⟩ := h_tE hF
  have Oq21 : isO f19 (n + 4) a 2 := by rw [h20]; exact Oq18.new
  have Kq21 : h_K f n a f19 := by rw [h20]; exact Kq18.new (by omega) hO.1
  obtain ⟨f22, h23, hF⟩ := h_tE hF
  have Oq24 : isO f22 (n + 4) a 2 := by rw [h23]; exact Oq21.put
  have Kq24 : h_K f n a f22 := by rw [h23]; exact Kq21.put
  obtain ⟨f25, h26, hF⟩ := h_tE hF
  have Oq27 : isO f25 (n + 5) a 2 := by rw [h26]; exact Oq24.new
  have Kq27 : h_K f n a f25 := by rw [h26]; exact Kq24.new (by omega) hO.1
  obtain ⟨f28, h29, hF⟩ := h_tE hF
  have Oq30 : isO f28 (n + 5) a 2 := by rw [h29]; exact Oq27.put
  have Kq30 : h_K f n a f28 := by rw [h29]; exact Kq27.put
  obtain ⟨f31, h32, hF⟩ := h_tE hF
  have Oq33 : isO f31 (n + 6) a 2 := by rw [h32]; exact Oq30.new
  have Kq33 : h_K f n a f31 := by rw [h32]; exact Kq30.new (by omega) hO.1
  obtain ⟨f34, h35, hF⟩ := h_tE hF
  have Oq36 : isO f34 (n + 6) a 2 := by rw [h35]; exact Oq33.put
  have Kq36 : h_K f n a f34 := by rw [h35]; exact Kq33.put
  obtain ⟨f37, h38, hF⟩ := h_tE hF
  have Oq39 : isO f37 (n + 7) a 2 := by rw [h38]; exact Oq36.new
  have Kq39 : h_K f n a f37 := by rw [h38]; exact Kq36.new (by omega) hO.1
  obtain ⟨f40, h41, hF⟩ := h_tE hF
  have Oq42 : isO f40 (n + 7) a 2 := by rw [h41]; exact Oq39.put
  have Kq42 : h_K f n a f40 := by rw [h41]; exact Kq39.put
  obtain ⟨f43, h44, hF⟩ := h_tE hF
  have Oq45 : isO f43 (n + 7) a 2 := by rw [h44]; exact Oq42.put
  have Kq45 : h_K f n a f43 := by rw [h44]; exact Kq42.put
  obtain ⟨f46, h47, hF⟩ := h_tE hF
  have Oq48 : isO f46 (n + 7) a 2 := by rw [h47]; exact Oq45.put
  have Kq48 : h_K f n a f46 := by rw [h47]; exact Kq45.put
  obtain ⟨f49, h50, hF⟩ := h_tE hF
  have Oq51 : isO f49 (n + 7) a 2 := by rw [h50]; exact Oq48.put
  have Kq51 : h_K f n a f49 := by rw [h50]; exact Kq48.put
  subst hF
  exact Kq51
set_option maxRecDepth 100000 in
set_option maxHeartbeats 8000000 in
theorem kX2_init (l : Launch) {y : Ly} {B n a : Nat} {f f1 : FH} (hO : isO f n a 2) (hF : gX2_init n f a = f1) : Met l yX2_init wqX2_init rmX2_init (h_P y B [.ref (B + a)] n f) (h_E y B (n + 7) f1) 7 390 (h_A B) := by
  refine c_met (by decide) rfl rfl rfl (fun x K hQ => ?_)
  unfold gX2_init at hF
  refine c_aload_n (pc := 0) (n := n) (cells := 0) (slots := 0) K dX2_init_0 0 rfl ?_
  refine c_objInit (pc := 1) (n := n) (cells := 0) (slots := 0) K (List.mem_cons_of_mem _ jl_X2_5) (List.mem_cons_of_mem _ jw_i_objectInit) (List.mem_cons_of_mem _ jw_c_objectInit) dX2_init_1 (Nat.le_of_ble_eq_true rfl) (Nat.le_of_ble_eq_true rfl) ?_
  refine c_aload_n (pc := 4) (n := n) (cells := 0) (slots := 0) K dX2_init_4 0 rfl ?_
  refine c_bipush (pc := 5) (n := n) (cells := 0) (slots := 0) (v := 14) K dX2_init_5 rfl ?_
  refine c_newa (pc := 7) (n := n) (cells := 0) (slots := 0) (atype := .int) (ty := .int) K 0 14 rfl rfl rfl (fun _ _ => rfl) (List.mem_cons_of_mem _ jw_y_int) (by decide) (by decide) (Nat.le_of_ble_eq_true rfl) (Nat.le_of_ble_eq_true rfl) (Nat.le_of_ble_eq_true rfl) dX2_init_7 ?_
  refine c_nm hF (fun f1 h2 hF => ?_)
  have Oq3 : isO f1 (n + 1) a 2 := by rw [h2]; exact hO.new
  have Kq3 : h_K f n a f1 := by rw [h2]; exact (h_K.rf (f := f) (n := n) (a := a)).new (by omega) hO.1
  refine c_put (pc := 9) (n := n + 1) (cells := 1) (slots := 14) (C := RX2) (T := TX2) (N := 12) (j := 0) (ty := tyX2 0) K (1, n) hQ.2.2.2.1 Oq3 rfl rfl jn_X2 tyX2 tyX2_ok nmX2 (by decide) (List.mem_cons_of_mem _ jl_X2_11) (Or.inr ⟨rfl, rfl⟩) (tyX2_ok 0 (by decide)) rfl rfl rfl dX2_init_9 ?_
  refine c_nm hF (fun f4 h5 hF => ?_)
  have Oq6 : isO f4 (n + 1) a 2 := by rw [h5]; exact Oq3.put
  have Kq6 : h_K f n a f4 := by rw [h5]; exact Kq3.put
  refine c_aload_n (pc := 12) (n := n + 1) (cells := 1) (slots := 14) K dX2_init_12 0 rfl ?_
  refine c_bipush (pc := 13) (n := n + 1) (cells := 1) (slots := 14) (v := 14) K dX2_init_13 rfl ?_
  refine c_newa (pc := 15) (n := n + 1) (cells := 1) (slots := 14) (atype := .int) (ty := .int) K 0 14 rfl rfl rfl (fun _ _ => rfl) (List.mem_cons_of_mem _ jw_y_int) (by decide) (by decide) (Nat.le_of_ble_eq_true rfl) (Nat.le_of_ble_eq_true rfl) (Nat.le_of_ble_eq_true rfl) dX2_init_15 ?_
  refine c_nm hF (fun f7 h8 hF => ?_)
  have Oq9 : isO f7 (n + 2) a 2 := by rw [h8]; exact Oq6.new
  have Kq9 : h_K f n a f7 := by rw [h8]; exact Kq6.new (by omega) hO.1
  refine c_put (pc := 17) (n := n + 2) (cells := 2) (slots := 28) (C := RX2) (T := TX2) (N := 12) (j := 1) (ty := tyX2 1) K (1, (n + 1)) hQ.2.2.2.1 Oq9 rfl rfl jn_X2 tyX2 tyX2_ok nmX2 (by decide) (List.mem_cons_of_mem _ jl_X2_15) (Or.inr ⟨rfl, rfl⟩) (tyX2_ok 1 (by decide)) rfl rfl rfl dX2_init_17 ?_
  refine c_nm hF (fun f10 h11 hF => ?_)
  have Oq12 : isO f10 (n + 2) a 2 := by rw [h11]; exact Oq9.put
  have Kq12 : h_K f n a f10 := by rw [h11]; exact Kq9.put
  refine c_aload_n (pc := 20) (n := n + 2) (cells := 2) (slots := 28) K dX2_init_20 0 rfl ?_
  refine c_bipush (pc := 21) (n := n + 2) (cells := 2) (slots := 28) (v := 14) K dX2_init_21 rfl ?_
  refine c_newa (pc := 23) (n := n + 2) (cells := 2) (slots := 28) (atype := .int) (ty := .int) K 0 14 rfl rfl rfl (fun _ _ => rfl) (List.mem_cons_of_mem _ jw_y_int) (by decide) (by decide) (Nat.le_of_ble_eq_true rfl) (Nat.le_of_ble_eq_true rfl) (Nat.le_of_ble_eq_true rfl) dX2_init_23 ?_
  refine c_nm hF (fun f13 h14 hF => ?_)
  have Oq15 : isO f13 (n + 3) a 2 := by rw [h14]; exact Oq12.new
  have Kq15 : h_K f n a f13 := by rw [h14]; exact Kq12.new (by omega) hO.1
  refine c_put (pc := 25) (n := n + 3) (cells := 3) (slots := 42) (C := RX2) (T := TX2) (N := 12) (j := 2) (ty := tyX2 2) K (1, (n + 2)) hQ.2.2.2.1 Oq15 rfl rfl jn_X2 tyX2 tyX2_ok nmX2 (by decide) (List.mem_cons_of_mem _ jl_X2_18) (Or.inr ⟨rfl, rfl⟩) (tyX2_ok 2 (by decide)) rfl rfl rfl dX2_init_25 ?_
  refine c_nm hF (fun f16 h17 hF => ?_)
  have Oq18 : isO f16 (n + 3) a 2 := by rw [h17]; exact Oq15.put
  have Kq18 : h_K f n a f16 := by rw [h17]; exact Kq15.put
  refine c_aload_n (pc := 28) (n := n + 3) (cells := 3) (slots := 42) K dX2_init_28 0 rfl ?_
  refine c_bipush (pc := 29) (n := n + 3) (cells := 3) (slots := 42) (v := 14) K dX2_init_29 rfl ?_
  refine c_newa (pc := 31) (n := n + 3) (cells := 3) (slots := 42) (atype := .int) (ty := .int) K 0 14 rfl rfl rfl (fun _ _ => rfl) (List.mem_cons_of_mem _ jw_y_int) (by decide) (by decide) (Nat.le_of_ble_eq_true rfl) (Nat.le_of_ble_eq_true rfl) (Nat.le_of_ble_eq_true rfl) dX2_init_31 ?_
  refine c_nm hF (fun f19 h20 hF => ?_)
  have Oq21 : isO f19 (n + 4) a 2 := by rw [h20]; exact Oq18.new
  have Kq21 : h_K f n a f19 := by rw [h20]; exact Kq18.new (by omega) hO.1
  refine c_put (pc := 33) (n := n + 4) (cells := 4) (slots := 56) (C := RX2) (T := TX2) (N := 12) (j := 3) (ty := tyX2 3) K (1, (n + 3)) hQ.2.2.2.1 Oq21 rfl rfl jn_X2 tyX2 tyX2_ok nmX2 (by decide) (List.mem_cons_of_mem _ jl_X2_21) (Or.inr ⟨rfl, rfl⟩) (tyX2_ok 3 (by decide)) rfl rfl rfl dX2_init_33 ?_
  refine c_nm hF (fun f22 h23 hF => ?_)
  have Oq24 : isO f22 (n + 4) a 2 := by rw [h23]; exact Oq21.put
  have Kq24 : h_K f n a f22 := by rw [h23]; exact Kq21.put
  refine c_aload_n (pc := 36) (n := n + 4) (cells := 4) (slots := 56) K dX2_init_36 0 rfl ?_
  refine c_bipush (pc := 37) (n := n + 4) (cells := 4) (slots := 56) (v := 14) K dX2_init_37 rfl ?_
  refine c_newa (pc := 39) (n := n + 4) (cells := 4) (slots := 56) (atype := .int) (ty := .int) K 0 14 rfl rfl rfl (fun _ _ => rfl) (List.mem_cons_of_mem _ jw_y_int) (by decide) (by decide) (Nat.le_of_ble_eq_true rfl) (Nat.le_of_ble_eq_true rfl) (Nat.le_of_ble_eq_true rfl) dX2_init_39 ?_
  refine c_nm hF (fun f25 h26 hF => ?_)
  have Oq27 : isO f25 (n + 5) a 2 := by rw [h26]; exact Oq24.new
  have Kq27 : h_K f n a f25 := by rw [h26]; exact Kq24.new (by omega) hO.1
  refine c_put (pc := 41) (n := n + 5) (cells := 5) (slots := 70) (C := RX2) (T := TX2) (N := 12) (j := 4) (ty := tyX2 4) K (1, (n + 4)) hQ.2.2.2.1 Oq27 rfl rfl jn_X2 tyX2 tyX2_ok nmX2 (by decide) (List.mem_cons_of_mem _ jl_X2_24) (Or.inr ⟨rfl, rfl⟩) (tyX2_ok 4 (by decide)) rfl rfl rfl dX2_init_41 ?_
  refine c_nm hF (fun f28 h29 hF => ?_)
  have Oq30 : isO f28 (n + 5) a 2 := by rw [h29]; exact Oq27.put
  have Kq30 : h_K f n a f28 := by rw [h29]; exact Kq27.put
  refine c_aload_n (pc := 44) (n := n + 5) (cells := 5) (slots := 70) K dX2_init_44 0 rfl ?_
  refine c_sipush (pc := 45) (n := n + 5) (cells := 5) (slots := 70) (v := 256) K dX2_init_45 rfl ?_
  refine c_newa (pc := 48) (n := n + 5) (cells := 5) (slots := 70) (atype := .int) (ty := .int) K 0 256 rfl rfl rfl (fun _ _ => rfl) (List.mem_cons_of_mem _ jw_y_int) (by decide) (by decide) (Nat.le_of_ble_eq_true rfl) (Nat.le_of_ble_eq_true rfl) (Nat.le_of_ble_eq_true rfl) dX2_init_48 ?_
  refine c_nm hF (fun f31 h32 hF => ?_)
  have Oq33 : isO f31 (n + 6) a 2 := by rw [h32]; exact Oq30.new
  have Kq33 : h_K f n a f31 := by rw [h32]; exact Kq30.new (by omega) hO.1
  refine c_put (pc := 50) (n := n + 6) (cells := 6) (slots := 326) (C := RX2) (T := TX2) (N := 12) (j := 5) (ty := tyX2 5) K (1, (n + 5)) hQ.2.2.2.1 Oq33 rfl rfl jn_X2 tyX2 tyX2_ok nmX2 (by decide) (List.mem_cons_of_mem _ jl_X2_27) (Or.inr ⟨rfl, rfl⟩) (tyX2_ok 5 (by decide)) rfl rfl rfl dX2_init_50 ?_
  refine c_nm hF (fun f34 h35 hF => ?_)
  have Oq36 : isO f34 (n + 6) a 2 := by rw [h35]; exact Oq33.put
  have Kq36 : h_K f n a f34 := by rw [h35]; exact Kq33.put
  refine c_aload_n (pc := 53) (n := n + 6) (cells := 6) (slots := 326) K dX2_init_53 0 rfl ?_
  refine c_bipush (pc := 54) (n := n + 6) (cells := 6) (slots := 326) (v := 64) K dX2_init_54 rfl ?_
  refine c_newa (pc := 56) (n := n + 6) (cells := 6) (slots := 326) (atype := .int) (ty := .int) K 0 64 rfl rfl rfl (fun _ _ => rfl) (List.mem_cons_of_mem _ jw_y_int) (by decide) (by decide) (Nat.le_of_ble_eq_true rfl) (Nat.le_of_ble_eq_true rfl) (Nat.le_of_ble_eq_true rfl) dX2_init_56 ?_
  refine c_nm hF (fun f37 h38 hF => ?_)
  have Oq39 : isO f37 (n + 7) a 2 := by rw [h38]; exact Oq36.new
  have Kq39 : h_K f n a f37 := by rw [h38]; exact Kq36.new (by omega) hO.1
  refine c_put (pc := 58) (n := n + 7) (cells := 7) (slots := 390) (C := RX2) (T := TX2) (N := 12) (j := 6) (ty := tyX2 6) K (1, (n + 6)) hQ.2.2.2.1 Oq39 rfl rfl jn_X2 tyX2 tyX2_ok nmX2 (by decide) (List.mem_cons_of_mem _ jl_X2_30) (Or.inr ⟨rfl, rfl⟩) (tyX2_ok 6 (by decide)) rfl rfl rfl dX2_init_58 ?_
  refine c_nm hF (fun f40 h41 hF => ?_)
  have Oq42 : isO f40 (n + 7) a 2 := by rw [h41]; exact Oq39.put
  have Kq42 : h_K f n a f40 := by rw [h41]; exact Kq39.put
  refine c_aload_n (pc := 61) (n := n + 7) (cells := 7) (slots := 390) K dX2_init_61 0 rfl ?_
  refine c_iconst (pc := 62) (n := n + 7) (cells := 7) (slots := 390) (v := 1) K dX2_init_62 rfl ?_
  refine c_put (pc := 63) (n := n + 7) (cells := 7) (slots := 390) (C := RX2) (T := TX2) (N := 12) (j := 9) (ty := tyX2 9) K (0, 1) hQ.2.2.2.1 Oq42 rfl rfl jn_X2 tyX2 tyX2_ok nmX2 (by decide) (List.mem_cons_of_mem _ jl_X2_33) (Or.inl rfl) (tyX2_ok 9 (by decide)) rfl rfl rfl dX2_init_63 ?_
  refine c_nm hF (fun f43 h44 hF => ?_)
  have Oq45 : isO f43 (n + 7) a 2 := by rw [h44]; exact Oq42.put
  have Kq45 : h_K f n a f43 := by rw [h44]; exact Kq42.put
  refine c_aload_n (pc := 66) (n := n + 7) (cells := 7) (slots := 390) K dX2_init_66 0 rfl ?_
  refine c_bipush (pc := 67) (n := n + 7) (cells := 7) (slots := 390) (v := 6) K dX2_init_67 rfl ?_
  refine c_put (pc := 69) (n := n + 7) (cells := 7) (slots := 390) (C := RX2) (T := TX2) (N := 12) (j := 10) (ty := tyX2 10) K (0, 6) hQ.2.2.2.1 Oq45 rfl rfl jn_X2 tyX2 tyX2_ok nmX2 (by decide) (List.mem_cons_of_mem _ jl_X2_37) (Or.inl rfl) (tyX2_ok 10 (by decide)) rfl rfl rfl dX2_init_69 ?_
  refine c_nm hF (fun f46 h47 hF => ?_)
  have Oq48 : isO f46 (n + 7) a 2 := by rw [h47]; exact Oq45.put
  have Kq48 : h_K f n a f46 := by rw [h47]; exact Kq45.put
  refine c_aload_n (pc := 72) (n := n + 7) (cells := 7) (slots := 390) K dX2_init_72 0 rfl ?_
  refine c_iconst (pc := 73) (n := n + 7) (cells := 7) (slots := 390) (v := 1) K dX2_init_73 rfl ?_
  refine c_put (pc := 74) (n := n + 7) (cells := 7) (slots := 390) (C := RX2) (T := TX2) (N := 12) (j := 11) (ty := tyX2 11) K (0, 1) hQ.2.2.2.1 Oq48 rfl rfl jn_X2 tyX2 tyX2_ok nmX2 (by decide) (List.mem_cons_of_mem _ jl_X2_40) (Or.inl rfl) (tyX2_ok 11 (by decide)) rfl rfl rfl dX2_init_74 ?_
  refine c_nm hF (fun f49 h50 hF => ?_)
  have Oq51 : isO f49 (n + 7) a 2 := by rw [h50]; exact Oq48.put
  have Kq51 : h_K f n a f49 := by rw [h50]; exact Kq48.put
  subst hF
  exact c_ret (pc := 77) K hQ dX2_init_77
-- ===== the making of TwoCards$Tokens
theorem jd_X9_init : yX9_init.cls ≠ "java/lang/invoke/MethodHandle" ∧ yX9_init.cls ≠ "java/lang/invoke/VarHandle" ∧ (parseMethodDescriptor yX9_init.desc).map (fun d => d.parameters.length) = some 0 := by decide +kernel
abbrev rmX9_init : Room := { frames := 1, cells := 3, slots := 1203, locals := 20 }
abbrev wqX9_init : List Cond := .code yX9_init cX9_init 1 none :: wsL_law
def gX9_init (n : Nat) (f : FH) (a : Nat) : FH := h_t (h_u f (n) (1, 0, [(0, 401)])) fun f1 => h_t (h_p f1 a 0 (1, n)) fun f4 => h_t (h_u f4 (n + 1) (1, 0, [(0, 401)])) fun f7 => h_t (h_p f7 a 1 (1, (n + 1))) fun f10 => h_t (h_u f10 (n + 2) (1, 0, [(0, 401)])) fun f13 => h_t (h_p f13 a 2 (1, (n + 2))) fun f16 => f16
set_option maxRecDepth 100000 in
set_option maxHeartbeats 8000000 in
theorem wX9_init {n a : Nat} {f f1 : FH} (hO : isO f n a 8) (hF : gX9_init n f a = f1) : h_K f n a f1 := by
  unfold gX9_init at hF
  obtain ⟨f1, h2, hF⟩ := h_tE hF
  have Oq3 : isO f1 (n + 1) a 8 := by rw [h2]; exact hO.new
  have Kq3 : h_K f n a f1 := by rw [h2]; exact (h_K.rf (f := f) (n := n) (a := a)).new (by omega) hO.1
  obtain ⟨f4, h5, hF⟩ := h_tE hF
  have Oq6 : isO f4 (n + 1) a 8 := by rw [h5]; exact Oq3.put
  have Kq6 : h_K f n a f4 := by rw [h5]; exact Kq3.put
  obtain ⟨f7, h8, hF⟩ := h_tE hF
  have Oq9 : isO f7 (n + 2) a 8 := by rw [h8]; exact Oq6.new
  have Kq9 : h_K f n a f7 := by rw [h8]; exact Kq6.new (by omega) hO.1
  obtain ⟨f10, h11, hF⟩ := h_tE hF
  have Oq12 : isO f10 (n + 2) a 8 := by rw [h11]; exact Oq9.put
  have Kq12 : h_K f n a f10 := by rw [h11]; exact Kq9.put
  obtain ⟨f13, h14, hF⟩ := h_tE hF
  have Oq15 : isO f13 (n + 3) a 8 := by rw [h14]; exact Oq12.new
  have Kq15 : h_K f n a f13 := by rw [h14]; exact Kq12.new (by omega) hO.1
  obtain ⟨f16, h17, hF⟩ := h_tE hF
  have Oq18 : isO f16 (n + 3) a 8 := by rw [h17]; exact Oq15.put
  have Kq18 : h_K f n a f16 := by rw [h17]; exact Kq15.put
  subst hF
  exact Kq18
set_option maxRecDepth 100000 in
set_option maxHeartbeats 8000000 in
theorem kX9_init (l : Launch) {y : Ly} {B n a : Nat} {f f1 : FH} (hO : isO f n a 8) (hF : gX9_init n f a = f1) : Met l yX9_init wqX9_init rmX9_init (h_P y B [.ref (B + a)] n f) (h_E y B (n + 3) f1) 3 1203 (h_A B) := by
  refine c_met (by decide) rfl rfl rfl (fun x K hQ => ?_)
  unfold gX9_init at hF
  refine c_aload_n (pc := 0) (n := n) (cells := 0) (slots := 0) K dX9_init_0 0 rfl ?_
  refine c_objInit (pc := 1) (n := n) (cells := 0) (slots := 0) K (List.mem_cons_of_mem _ jl_X9_3) (List.mem_cons_of_mem _ jw_i_objectInit) (List.mem_cons_of_mem _ jw_c_objectInit) dX9_init_1 (Nat.le_of_ble_eq_true rfl) (Nat.le_of_ble_eq_true rfl) ?_
  refine c_aload_n (pc := 4) (n := n) (cells := 0) (slots := 0) K dX9_init_4 0 rfl ?_
  refine c_sipush (pc := 5) (n := n) (cells := 0) (slots := 0) (v := 401) K dX9_init_5 rfl ?_
  refine c_newa (pc := 8) (n := n) (cells := 0) (slots := 0) (atype := .int) (ty := .int) K 0 401 rfl rfl rfl (fun _ _ => rfl) (List.mem_cons_of_mem _ jw_y_int) (by decide) (by decide) (Nat.le_of_ble_eq_true rfl) (Nat.le_of_ble_eq_true rfl) (Nat.le_of_ble_eq_true rfl) dX9_init_8 ?_
  refine c_nm hF (fun f1 h2 hF => ?_)
  have Oq3 : isO f1 (n + 1) a 8 := by rw [h2]; exact hO.new
  have Kq3 : h_K f n a f1 := by rw [h2]; exact (h_K.rf (f := f) (n := n) (a := a)).new (by omega) hO.1
  refine c_put (pc := 10) (n := n + 1) (cells := 1) (slots := 401) (C := RX9) (T := TX9) (N := 4) (j := 0) (ty := tyX9 0) K (1, n) hQ.2.2.2.1 Oq3 rfl rfl jn_X9 tyX9 tyX9_ok nmX9 (by decide) (List.mem_cons_of_mem _ jl_X9_9) (Or.inr ⟨rfl, rfl⟩) (tyX9_ok 0 (by decide)) rfl rfl rfl dX9_init_10 ?_
  refine c_nm hF (fun f4 h5 hF => ?_)
  have Oq6 : isO f4 (n + 1) a 8 := by rw [h5]; exact Oq3.put
  have Kq6 : h_K f n a f4 := by rw [h5]; exact Kq3.put
  refine c_aload_n (pc := 13) (n := n + 1) (cells := 1) (slots := 401) K dX9_init_13 0 rfl ?_
  refine c_sipush (pc := 14) (n := n + 1) (cells := 1) (slots := 401) (v := 401) K dX9_init_14 rfl ?_
  refine c_newa (pc := 17) (n := n + 1) (cells := 1) (slots := 401) (atype := .int) (ty := .int) K 0 401 rfl rfl rfl (fun _ _ => rfl) (List.mem_cons_of_mem _ jw_y_int) (by decide) (by decide) (Nat.le_of_ble_eq_true rfl) (Nat.le_of_ble_eq_true rfl) (Nat.le_of_ble_eq_true rfl) dX9_init_17 ?_
  refine c_nm hF (fun f7 h8 hF => ?_)
  have Oq9 : isO f7 (n + 2) a 8 := by rw [h8]; exact Oq6.new
  have Kq9 : h_K f n a f7 := by rw [h8]; exact Kq6.new (by omega) hO.1
  refine c_put (pc := 19) (n := n + 2) (cells := 2) (slots := 802) (C := RX9) (T := TX9) (N := 4) (j := 1) (ty := tyX9 1) K (1, (n + 1)) hQ.2.2.2.1 Oq9 rfl rfl jn_X9 tyX9 tyX9_ok nmX9 (by decide) (List.mem_cons_of_mem _ jl_X9_15) (Or.inr ⟨rfl, rfl⟩) (tyX9_ok 1 (by decide)) rfl rfl rfl dX9_init_19 ?_
  refine c_nm hF (fun f10 h11 hF => ?_)
  have Oq12 : isO f10 (n + 2) a 8 := by rw [h11]; exact Oq9.put
  have Kq12 : h_K f n a f10 := by rw [h11]; exact Kq9.put
  refine c_aload_n (pc := 22) (n := n + 2) (cells := 2) (slots := 802) K dX9_init_22 0 rfl ?_
  refine c_sipush (pc := 23) (n := n + 2) (cells := 2) (slots := 802) (v := 401) K dX9_init_23 rfl ?_
  refine c_newa (pc := 26) (n := n + 2) (cells := 2) (slots := 802) (atype := .int) (ty := .int) K 0 401 rfl rfl rfl (fun _ _ => rfl) (List.mem_cons_of_mem _ jw_y_int) (by decide) (by decide) (Nat.le_of_ble_eq_true rfl) (Nat.le_of_ble_eq_true rfl) (Nat.le_of_ble_eq_true rfl) dX9_init_26 ?_
  refine c_nm hF (fun f13 h14 hF => ?_)
  have Oq15 : isO f13 (n + 3) a 8 := by rw [h14]; exact Oq12.new
  have Kq15 : h_K f n a f13 := by rw [h14]; exact Kq12.new (by omega) hO.1
  refine c_put (pc := 28) (n := n + 3) (cells := 3) (slots := 1203) (C := RX9) (T := TX9) (N := 4) (j := 2) (ty := tyX9 2) K (1, (n + 2)) hQ.2.2.2.1 Oq15 rfl rfl jn_X9 tyX9 tyX9_ok nmX9 (by decide) (List.mem_cons_of_mem _ jl_X9_18) (Or.inr ⟨rfl, rfl⟩) (tyX9_ok 2 (by decide)) rfl rfl rfl dX9_init_28 ?_
  refine c_nm hF (fun f16 h17 hF => ?_)
  have Oq18 : isO f16 (n + 3) a 8 := by rw [h17]; exact Oq15.put
  have Kq18 : h_K f n a f16 := by rw [h17]; exact Kq15.put
  subst hF
  exact c_ret (pc := 31) K hQ dX9_init_31
-- ===== the making of TwoCards$Reader
theorem jd_X5_init : yX5_init.cls ≠ "java/lang/invoke/MethodHandle" ∧ yX5_init.cls ≠ "java/lang/invoke/VarHandle" ∧ (parseMethodDescriptor yX5_init.desc).map (fun d => d.parameters.length) = some 0 := by decide +kernel
abbrev rmX5_init : Room := { frames := 2, cells := 12, slots := 1609, locals := 40 }
abbrev wqX5_init : List Cond := .code yX5_init cX5_init 1 none :: wsL_law
def gX5_init (n : Nat) (f : FH) (a : Nat) : FH := h_t (h_u f (n) (0, 8, [(2, 0), (2, 0), (2, 0), (0, 0)])) fun f1 => h_t (gX9_init (n + 1) f1 n) fun f4 => h_t (h_p f4 a 0 (1, n)) fun f7 => h_t (h_u f7 (n + 4) (0, 2, [(2, 0), (2, 0), (2, 0), (2, 0), (2, 0), (2, 0), (2, 0), (0, 0), (0, 0), (0, 0), (0, 0), (0, 0)])) fun f10 => h_t (gX2_init (n + 5) f10 (n + 4)) fun f13 => h_t (h_p f13 a 1 (1, (n + 4))) fun f16 => f16
set_option maxRecDepth 100000 in
set_option maxHeartbeats 8000000 in
theorem wX5_init {n a : Nat} {f f1 : FH} (hO : isO f n a 5) (hF : gX5_init n f a = f1) : h_K f n a f1 := by
  unfold gX5_init at hF
  obtain ⟨f1, h2, hF⟩ := h_tE hF
  have Oq3 : isO f1 (n + 1) a 5 := by rw [h2]; exact hO.new
  have Kq3 : h_K f n a f1 := by rw [h2]; exact (h_K.rf (f := f) (n := n) (a := a)).new (by omega) hO.1
  have F0h2 : isO f1 (n + 1) n 8 := by rw [h2]; exact isO.here rfl
  obtain ⟨f4, h5, hF⟩ := h_tE hF
  have Ch5 : h_K f1 (n + 1) n f4 := by rw [h5]; exact wX9_init F0h2 rfl
  have Oq6 : isO f4 (n + 4) a 5 := Oq3.call Ch5 (by omega)
  have Kq6 : h_K f n a f4 := Kq3.call Ch5 (by omega) (by omega) hO.1
  have Fq6_0 : isO f4 (n + 4) n 8 := F0h2.call Ch5 (by omega)
  obtain ⟨f7, h8, hF⟩ := h_tE hF
  have Oq9 : isO f7 (n + 4) a 5 := by rw [h8]; exact Oq6.put
  have Kq9 : h_K f n a f7 := by rw [h8]; exact Kq6.put
  have Fq9_1 : isO f7 (n + 4) n 8 := by rw [h8]; exact Fq6_0.put
  obtain ⟨f10, h11, hF⟩ := h_tE hF
  have Oq12 : isO f10 (n + 5) a 5 := by rw [h11]; exact Oq9.new
  have Kq12 : h_K f n a f10 := by rw [h11]; exact Kq9.new (by omega) hO.1
  have F0h11 : isO f10 (n + 5) (n + 4) 2 := by rw [h11]; exact isO.here rfl
  obtain ⟨f13, h14, hF⟩ := h_tE hF
  have Ch14 : h_K f10 (n + 5) (n + 4) f13 := by rw [h14]; exact wX2_init F0h11 rfl
  have Oq15 : isO f13 (n + 12) a 5 := Oq12.call Ch14 (by omega)
  have Kq15 : h_K f n a f13 := Kq12.call Ch14 (by omega) (by omega) hO.1
  have Fq15_4 : isO f13 (n + 12) (n + 4) 2 := F0h11.call Ch14 (by omega)
  obtain ⟨f16, h17, hF⟩ := h_tE hF
  have Oq18 : isO f16 (n + 12) a 5 := by rw [h17]; exact Oq15.put
  have Kq18 : h_K f n a f16 := by rw [h17]; exact Kq15.put
  have Fq18_11 : isO f16 (n + 12) (n + 4) 2 := by rw [h17]; exact Fq15_4.put
  subst hF
  exact Kq18
set_option maxRecDepth 100000 in
set_option maxHeartbeats 8000000 in
theorem kX5_init (l : Launch) {y : Ly} {B n a : Nat} {f f1 : FH} (hO : isO f n a 5) (hF : gX5_init n f a = f1) : Met l yX5_init wqX5_init rmX5_init (h_P y B [.ref (B + a)] n f) (h_E y B (n + 12) f1) 12 1609 (h_A B) := by
  refine c_met (by decide) rfl rfl rfl (fun x K hQ => ?_)
  unfold gX5_init at hF
  refine c_aload_n (pc := 0) (n := n) (cells := 0) (slots := 0) K dX5_init_0 0 rfl ?_
  refine c_objInit (pc := 1) (n := n) (cells := 0) (slots := 0) K (List.mem_cons_of_mem _ jl_X5_3) (List.mem_cons_of_mem _ jw_i_objectInit) (List.mem_cons_of_mem _ jw_c_objectInit) dX5_init_1 (Nat.le_of_ble_eq_true rfl) (Nat.le_of_ble_eq_true rfl) ?_
  refine c_aload_n (pc := 4) (n := n) (cells := 0) (slots := 0) K dX5_init_4 0 rfl ?_
  refine c_new (pc := 5) (n := n) (cells := 0) (slots := 0) (ci := 8) (C := RX9) (T := TX9) (N := 4) K [(2, 0), (2, 0), (2, 0), (0, 0)] rfl rfl jn_X9 tyX9 tyX9_ok (List.mem_cons_of_mem _ jl_X5_9) (List.mem_cons_of_mem _ jw_a_X9) (List.mem_cons_of_mem _ jw_n_X9) df_X9 (Nat.le_of_ble_eq_true rfl) (Nat.le_of_ble_eq_true rfl) dX5_init_5 ?_
  refine c_nm hF (fun f1 h2 hF => ?_)
  have Oq3 : isO f1 (n + 1) a 5 := by rw [h2]; exact hO.new
  have Kq3 : h_K f n a f1 := by rw [h2]; exact (h_K.rf (f := f) (n := n) (a := a)).new (by omega) hO.1
  have F0h2 : isO f1 (n + 1) n 8 := by rw [h2]; exact isO.here rfl
  refine c_dup (pc := 8) (n := n + 1) (cells := 1) (slots := 4) K dX5_init_8 rfl ?_
  refine c_callN (pc := 9) (n := n + 1) (cells := 1) (slots := 4) (host := "TwoCards") K (kX9_init l F0h2 rfl) hQ.2.2.2.2 (jg_cons jw_c_X9_init) rfl rfl rfl (List.mem_cons_of_mem _ jw_n_X9) (by decide +kernel) (List.mem_cons_of_mem _ jw_i_X9_init) rfl jd_X9_init ⟨Nat.le_of_ble_eq_true rfl, Nat.le_of_ble_eq_true rfl⟩ (Nat.le_of_ble_eq_true rfl) (Nat.le_of_ble_eq_true rfl) (Nat.le_of_ble_eq_true rfl) dX5_init_9 ?_
  refine c_nm hF (fun f4 h5 hF => ?_)
  have Ch5 : h_K f1 (n + 1) n f4 := by rw [h5]; exact wX9_init F0h2 rfl
  have Oq6 : isO f4 (n + 4) a 5 := Oq3.call Ch5 (by omega)
  have Kq6 : h_K f n a f4 := Kq3.call Ch5 (by omega) (by omega) hO.1
  have Fq6_0 : isO f4 (n + 4) n 8 := F0h2.call Ch5 (by omega)
  refine c_put (pc := 12) (n := n + 4) (cells := 4) (slots := 1207) (C := RX5) (T := TX5) (N := 6) (j := 0) (ty := tyX5 0) K (1, n) hQ.2.2.2.1 Oq6 rfl rfl jn_X5 tyX5 tyX5_ok nmX5 (by decide) (List.mem_cons_of_mem _ jl_X5_12) (Or.inr ⟨rfl, rfl⟩) (tyX5_ok 0 (by decide)) rfl rfl rfl dX5_init_12 ?_
  refine c_nm hF (fun f7 h8 hF => ?_)
  have Oq9 : isO f7 (n + 4) a 5 := by rw [h8]; exact Oq6.put
  have Kq9 : h_K f n a f7 := by rw [h8]; exact Kq6.put
  have Fq9_1 : isO f7 (n + 4) n 8 := by rw [h8]; exact Fq6_0.put
  refine c_aload_n (pc := 15) (n := n + 4) (cells := 4) (slots := 1207) K dX5_init_15 0 rfl ?_
  refine c_new (pc := 16) (n := n + 4) (cells := 4) (slots := 1207) (ci := 2) (C := RX2) (T := TX2) (N := 12) K [(2, 0), (2, 0), (2, 0), (2, 0), (2, 0), (2, 0), (2, 0), (0, 0), (0, 0), (0, 0), (0, 0), (0, 0)] rfl rfl jn_X2 tyX2 tyX2_ok (List.mem_cons_of_mem _ jl_X5_18) (List.mem_cons_of_mem _ jw_a_X2) (List.mem_cons_of_mem _ jw_n_X2) df_X2 (Nat.le_of_ble_eq_true rfl) (Nat.le_of_ble_eq_true rfl) dX5_init_16 ?_
  refine c_nm hF (fun f10 h11 hF => ?_)
  have Oq12 : isO f10 (n + 5) a 5 := by rw [h11]; exact Oq9.new
  have Kq12 : h_K f n a f10 := by rw [h11]; exact Kq9.new (by omega) hO.1
  have F0h11 : isO f10 (n + 5) (n + 4) 2 := by rw [h11]; exact isO.here rfl
  refine c_dup (pc := 19) (n := n + 5) (cells := 5) (slots := 1219) K dX5_init_19 rfl ?_
  refine c_callN (pc := 20) (n := n + 5) (cells := 5) (slots := 1219) (host := "TwoCards") K (kX2_init l F0h11 rfl) hQ.2.2.2.2 (jg_cons jw_c_X2_init) rfl rfl rfl (List.mem_cons_of_mem _ jw_n_X2) (by decide +kernel) (List.mem_cons_of_mem _ jw_i_X2_init) rfl jd_X2_init ⟨Nat.le_of_ble_eq_true rfl, Nat.le_of_ble_eq_true rfl⟩ (Nat.le_of_ble_eq_true rfl) (Nat.le_of_ble_eq_true rfl) (Nat.le_of_ble_eq_true rfl) dX5_init_20 ?_
  refine c_nm hF (fun f13 h14 hF => ?_)
  have Ch14 : h_K f10 (n + 5) (n + 4) f13 := by rw [h14]; exact wX2_init F0h11 rfl
  have Oq15 : isO f13 (n + 12) a 5 := Oq12.call Ch14 (by omega)
  have Kq15 : h_K f n a f13 := Kq12.call Ch14 (by omega) (by omega) hO.1
  have Fq15_4 : isO f13 (n + 12) (n + 4) 2 := F0h11.call Ch14 (by omega)
  refine c_put (pc := 23) (n := n + 12) (cells := 12) (slots := 1609) (C := RX5) (T := TX5) (N := 6) (j := 1) (ty := tyX5 1) K (1, (n + 4)) hQ.2.2.2.1 Oq15 rfl rfl jn_X5 tyX5 tyX5_ok nmX5 (by decide) (List.mem_cons_of_mem _ jl_X5_21) (Or.inl rfl) (tyX5_ok 1 (by decide)) rfl rfl rfl dX5_init_23 ?_
  refine c_nm hF (fun f16 h17 hF => ?_)
  have Oq18 : isO f16 (n + 12) a 5 := by rw [h17]; exact Oq15.put
  have Kq18 : h_K f n a f16 := by rw [h17]; exact Kq15.put
  have Fq18_11 : isO f16 (n + 12) (n + 4) 2 := by rw [h17]; exact Fq15_4.put
  subst hF
  exact c_ret (pc := 26) K hQ dX5_init_26
-- ===== the making of TwoCards$Quarrel
theorem jd_X4_init : yX4_init.cls ≠ "java/lang/invoke/MethodHandle" ∧ yX4_init.cls ≠ "java/lang/invoke/VarHandle" ∧ (parseMethodDescriptor yX4_init.desc).map (fun d => d.parameters.length) = some 0 := by decide +kernel
abbrev rmX4_init : Room := { frames := 1, cells := 2, slots := 18, locals := 20 }
abbrev wqX4_init : List Cond := .code yX4_init cX4_init 1 none :: wsL_law
def gX4_init (n : Nat) (f : FH) (a : Nat) : FH := h_t (h_u f (n) (1, 0, [(0, 9)])) fun f1 => h_t (h_p f1 a 0 (1, n)) fun f4 => h_t (h_u f4 (n + 1) (1, 0, [(0, 9)])) fun f7 => h_t (h_p f7 a 1 (1, (n + 1))) fun f10 => f10
set_option maxRecDepth 100000 in
set_option maxHeartbeats 8000000 in
theorem wX4_init {n a : Nat} {f f1 : FH} (hO : isO f n a 4) (hF : gX4_init n f a = f1) : h_K f n a f1 := by
  unfold gX4_init at hF
  obtain ⟨f1, h2, hF⟩ := h_tE hF
  have Oq3 : isO f1 (n + 1) a 4 := by rw [h2]; exact hO.new
  have Kq3 : h_K f n a f1 := by rw [h2]; exact (h_K.rf (f := f) (n := n) (a := a)).new (by omega) hO.1
  obtain ⟨f4, h5, hF⟩ := h_tE hF
  have Oq6 : isO f4 (n + 1) a 4 := by rw [h5]; exact Oq3.put
  have Kq6 : h_K f n a f4 := by rw [h5]; exact Kq3.put
  obtain ⟨f7, h8, hF⟩ := h_tE hF
  have Oq9 : isO f7 (n + 2) a 4 := by rw [h8]; exact Oq6.new
  have Kq9 : h_K f n a f7 := by rw [h8]; exact Kq6.new (by omega) hO.1
  obtain ⟨f10, h11, hF⟩ := h_tE hF
  have Oq12 : isO f10 (n + 2) a 4 := by rw [h11]; exact Oq9.put
  have Kq12 : h_K f n a f10 := by rw [h11]; exact Kq9.put
  subst hF
  exact Kq12
set_option maxRecDepth 100000 in
set_option maxHeartbeats 8000000 in
theorem kX4_init (l : Launch) {y : Ly} {B n a : Nat} {f f1 : FH} (hO : isO f n a 4) (hF : gX4_init n f a = f1) : Met l yX4_init wqX4_init rmX4_init (h_P y B [.ref (B + a)] n f) (h_E y B (n + 2) f1) 2 18 (h_A B) := by
  refine c_met (by decide) rfl rfl rfl (fun x K hQ => ?_)
  unfold gX4_init at hF
  refine c_aload_n (pc := 0) (n := n) (cells := 0) (slots := 0) K dX4_init_0 0 rfl ?_
  refine c_objInit (pc := 1) (n := n) (cells := 0) (slots := 0) K (List.mem_cons_of_mem _ jl_X4_3) (List.mem_cons_of_mem _ jw_i_objectInit) (List.mem_cons_of_mem _ jw_c_objectInit) dX4_init_1 (Nat.le_of_ble_eq_true rfl) (Nat.le_of_ble_eq_true rfl) ?_
  refine c_aload_n (pc := 4) (n := n) (cells := 0) (slots := 0) K dX4_init_4 0 rfl ?_
  refine c_bipush (pc := 5) (n := n) (cells := 0) (slots := 0) (v := 9) K dX4_init_5 rfl ?_
  refine c_newa (pc := 7) (n := n) (cells := 0) (slots := 0) (atype := .int) (ty := .int) K 0 9 rfl rfl rfl (fun _ _ => rfl) (List.mem_cons_of_mem _ jw_y_int) (by decide) (by decide) (Nat.le_of_ble_eq_true rfl) (Nat.le_of_ble_eq_true rfl) (Nat.le_of_ble_eq_true rfl) dX4_init_7 ?_
  refine c_nm hF (fun f1 h2 hF => ?_)
  have Oq3 : isO f1 (n + 1) a 4 := by rw [h2]; exact hO.new
  have Kq3 : h_K f n a f1 := by rw [h2]; exact (h_K.rf (f := f) (n := n) (a := a)).new (by omega) hO.1
  refine c_put (pc := 9) (n := n + 1) (cells := 1) (slots := 9) (C := RX4) (T := TX4) (N := 8) (j := 0) (ty := tyX4 0) K (1, n) hQ.2.2.2.1 Oq3 rfl rfl jn_X4 tyX4 tyX4_ok nmX4 (by decide) (List.mem_cons_of_mem _ jl_X4_9) (Or.inr ⟨rfl, rfl⟩) (tyX4_ok 0 (by decide)) rfl rfl rfl dX4_init_9 ?_
  refine c_nm hF (fun f4 h5 hF => ?_)
  have Oq6 : isO f4 (n + 1) a 4 := by rw [h5]; exact Oq3.put
  have Kq6 : h_K f n a f4 := by rw [h5]; exact Kq3.put
  refine c_aload_n (pc := 12) (n := n + 1) (cells := 1) (slots := 9) K dX4_init_12 0 rfl ?_
  refine c_bipush (pc := 13) (n := n + 1) (cells := 1) (slots := 9) (v := 9) K dX4_init_13 rfl ?_
  refine c_newa (pc := 15) (n := n + 1) (cells := 1) (slots := 9) (atype := .int) (ty := .int) K 0 9 rfl rfl rfl (fun _ _ => rfl) (List.mem_cons_of_mem _ jw_y_int) (by decide) (by decide) (Nat.le_of_ble_eq_true rfl) (Nat.le_of_ble_eq_true rfl) (Nat.le_of_ble_eq_true rfl) dX4_init_15 ?_
  refine c_nm hF (fun f7 h8 hF => ?_)
  have Oq9 : isO f7 (n + 2) a 4 := by rw [h8]; exact Oq6.new
  have Kq9 : h_K f n a f7 := by rw [h8]; exact Kq6.new (by omega) hO.1
  refine c_put (pc := 17) (n := n + 2) (cells := 2) (slots := 18) (C := RX4) (T := TX4) (N := 8) (j := 1) (ty := tyX4 1) K (1, (n + 1)) hQ.2.2.2.1 Oq9 rfl rfl jn_X4 tyX4 tyX4_ok nmX4 (by decide) (List.mem_cons_of_mem _ jl_X4_15) (Or.inr ⟨rfl, rfl⟩) (tyX4_ok 1 (by decide)) rfl rfl rfl dX4_init_17 ?_
  refine c_nm hF (fun f10 h11 hF => ?_)
  have Oq12 : isO f10 (n + 2) a 4 := by rw [h11]; exact Oq9.put
  have Kq12 : h_K f n a f10 := by rw [h11]; exact Kq9.put
  subst hF
  exact c_ret (pc := 20) K hQ dX4_init_20
-- ===== the making of TwoCards$Book
theorem jd_X1_init : yX1_init.cls ≠ "java/lang/invoke/MethodHandle" ∧ yX1_init.cls ≠ "java/lang/invoke/VarHandle" ∧ (parseMethodDescriptor yX1_init.desc).map (fun d => d.parameters.length) = some 0 := by decide +kernel
abbrev rmX1_init : Room := { frames := 2, cells := 78, slots := 708, locals := 40 }
abbrev wqX1_init : List Cond := .code yX1_init cX1_init 2 none :: wsL_law
def gX1_init (n : Nat) (f : FH) (a : Nat) : FH := h_t (h_u f (n) (1, 0, [(0, 12)])) fun f1 => h_t (h_p f1 a 0 (1, n)) fun f4 => h_t (h_u f4 (n + 1) (1, 0, [(0, 12)])) fun f7 => h_t (h_p f7 a 1 (1, (n + 1))) fun f10 => h_t (h_u f10 (n + 2) (1, 0, [(0, 12)])) fun f13 => h_t (h_p f13 a 2 (1, (n + 2))) fun f16 => h_t (h_u f16 (n + 3) (1, 0, [(0, 12)])) fun f19 => h_t (h_p f19 a 3 (1, (n + 3))) fun f22 => h_t (h_u f22 (n + 4) (1, 0, [(0, 12)])) fun f25 => h_t (h_p f25 a 4 (1, (n + 4))) fun f28 => h_t (h_u f28 (n + 5) (2, 5, List.replicate 24 (2, 0))) fun f31 => h_t (h_p f31 a 5 (1, (n + 5))) fun f34 => h_t (h_u f34 (n + 6) (0, 4, [(2, 0), (2, 0), (0, 0), (0, 0), (0, 0), (0, 0), (0, 0), (0, 0)])) fun f37 => h_t (gX4_init (n + 7) f37 (n + 6)) fun f40 => h_t (h_p f40 (n + 5) 0 (1, (n + 6))) fun f43 => h_t (h_u f43 (n + 9) (0, 4, [(2, 0), (2, 0), (0, 0), (0, 0), (0, 0), (0, 0), (0, 0), (0, 0)])) fun f46 => h_t (gX4_init (n + 10) f46 (n + 9)) fun f49 => h_t (h_p f49 (n + 5) 1 (1, (n + 9))) fun f52 => h_t (h_u f52 (n + 12) (0, 4, [(2, 0), (2, 0), (0, 0), (0, 0), (0, 0), (0, 0), (0, 0), (0, 0)])) fun f55 => h_t (gX4_init (n + 13) f55 (n + 12)) fun f58 => h_t (h_p f58 (n + 5) 2 (1, (n + 12))) fun f61 => h_t (h_u f61 (n + 15) (0, 4, [(2, 0), (2, 0), (0, 0), (0, 0), (0, 0), (0, 0), (0, 0), (0, 0)])) fun f64 => h_t (gX4_init (n + 16) f64 (n + 15)) fun f67 => h_t (h_p f67 (n + 5) 3 (1, (n + 15))) fun f70 => h_t (h_u f70 (n + 18) (0, 4, [(2, 0), (2, 0), (0, 0), (0, 0), (0, 0), (0, 0), (0, 0), (0, 0)])) fun f73 => h_t (gX4_init (n + 19) f73 (n + 18)) fun f76 => h_t (h_p f76 (n + 5) 4 (1, (n + 18))) fun f79 => h_t (h_u f79 (n + 21) (0, 4, [(2, 0), (2, 0), (0, 0), (0, 0), (0, 0), (0, 0), (0, 0), (0, 0)])) fun f82 => h_t (gX4_init (n + 22) f82 (n + 21)) fun f85 => h_t (h_p f85 (n + 5) 5 (1, (n + 21))) fun f88 => h_t (h_u f88 (n + 24) (0, 4, [(2, 0), (2, 0), (0, 0), (0, 0), (0, 0), (0, 0), (0, 0), (0, 0)])) fun f91 => h_t (gX4_init (n + 25) f91 (n + 24)) fun f94 => h_t (h_p f94 (n + 5) 6 (1, (n + 24))) fun f97 => h_t (h_u f97 (n + 27) (0, 4, [(2, 0), (2, 0), (0, 0), (0, 0), (0, 0), (0, 0), (0, 0), (0, 0)])) fun f100 => h_t (gX4_init (n + 28) f100 (n + 27)) fun f103 => h_t (h_p f103 (n + 5) 7 (1, (n + 27))) fun f106 => h_t (h_u f106 (n + 30) (0, 4, [(2, 0), (2, 0), (0, 0), (0, 0), (0, 0), (0, 0), (0, 0), (0, 0)])) fun f109 => h_t (gX4_init (n + 31) f109 (n + 30)) fun f112 => h_t (h_p f112 (n + 5) 8 (1, (n + 30))) fun f115 => h_t (h_u f115 (n + 33) (0, 4, [(2, 0), (2, 0), (0, 0), (0, 0), (0, 0), (0, 0), (0, 0), (0, 0)])) fun f118 => h_t (gX4_init (n + 34) f118 (n + 33)) fun f121 => h_t (h_p f121 (n + 5) 9 (1, (n + 33))) fun f124 => h_t (h_u f124 (n + 36) (0, 4, [(2, 0), (2, 0), (0, 0), (0, 0), (0, 0), (0, 0), (0, 0), (0, 0)])) fun f127 => h_t (gX4_init (n + 37) f127 (n + 36)) fun f130 => h_t (h_p f130 (n + 5) 10 (1, (n + 36))) fun f133 => h_t (h_u f133 (n + 39) (0, 4, [(2, 0), (2, 0), (0, 0), (0, 0), (0, 0), (0, 0), (0, 0), (0, 0)])) fun f136 => h_t (gX4_init (n + 40) f136 (n + 39)) fun f139 => h_t (h_p f139 (n + 5) 11 (1, (n + 39))) fun f142 => h_t (h_u f142 (n + 42) (0, 4, [(2, 0), (2, 0), (0, 0), (0, 0), (0, 0), (0, 0), (0, 0), (0, 0)])) fun f145 => h_t (gX4_init (n + 43) f145 (n + 42)) fun f148 => h_t (h_p f148 (n + 5) 12 (1, (n + 42))) fun f151 => h_t (h_u f151 (n + 45) (0, 4, [(2, 0), (2, 0), (0, 0), (0, 0), (0, 0), (0, 0), (0, 0), (0, 0)])) fun f154 => h_t (gX4_init (n + 46) f154 (n + 45)) fun f157 => h_t (h_p f157 (n + 5) 13 (1, (n + 45))) fun f160 => h_t (h_u f160 (n + 48) (0, 4, [(2, 0), (2, 0), (0, 0), (0, 0), (0, 0), (0, 0), (0, 0), (0, 0)])) fun f163 => h_t (gX4_init (n + 49) f163 (n + 48)) fun f166 => h_t (h_p f166 (n + 5) 14 (1, (n + 48))) fun f169 => h_t (h_u f169 (n + 51) (0, 4, [(2, 0), (2, 0), (0, 0), (0, 0), (0, 0), (0, 0), (0, 0), (0, 0)])) fun f172 => h_t (gX4_init (n + 52) f172 (n + 51)) fun f175 => h_t (h_p f175 (n + 5) 15 (1, (n + 51))) fun f178 => h_t (h_u f178 (n + 54) (0, 4, [(2, 0), (2, 0), (0, 0), (0, 0), (0, 0), (0, 0), (0, 0), (0, 0)])) fun f181 => h_t (gX4_init (n + 55) f181 (n + 54)) fun f184 => h_t (h_p f184 (n + 5) 16 (1, (n + 54))) fun f187 => h_t (h_u f187 (n + 57) (0, 4, [(2, 0), (2, 0), (0, 0), (0, 0), (0, 0), (0, 0), (0, 0), (0, 0)])) fun f190 => h_t (gX4_init (n + 58) f190 (n + 57)) fun f193 => h_t (h_p f193 (n + 5) 17 (1, (n + 57))) fun f196 => h_t (h_u f196 (n + 60) (0, 4, [(2, 0), (2, 0), (0, 0), (0, 0), (0, 0), (0, 0), (0, 0), (0, 0)])) fun f199 => h_t (gX4_init (n + 61) f199 (n + 60)) fun f202 => h_t (h_p f202 (n + 5) 18 (1, (n + 60))) fun f205 => h_t (h_u f205 (n + 63) (0, 4, [(2, 0), (2, 0), (0, 0), (0, 0), (0, 0), (0, 0), (0, 0), (0, 0)])) fun f208 => h_t (gX4_init (n + 64) f208 (n + 63)) fun f211 => h_t (h_p f211 (n + 5) 19 (1, (n + 63))) fun f214 => h_t (h_u f214 (n + 66) (0, 4, [(2, 0), (2, 0), (0, 0), (0, 0), (0, 0), (0, 0), (0, 0), (0, 0)])) fun f217 => h_t (gX4_init (n + 67) f217 (n + 66)) fun f220 => h_t (h_p f220 (n + 5) 20 (1, (n + 66))) fun f223 => h_t (h_u f223 (n + 69) (0, 4, [(2, 0), (2, 0), (0, 0), (0, 0), (0, 0), (0, 0), (0, 0), (0, 0)])) fun f226 => h_t (gX4_init (n + 70) f226 (n + 69)) fun f229 => h_t (h_p f229 (n + 5) 21 (1, (n + 69))) fun f232 => h_t (h_u f232 (n + 72) (0, 4, [(2, 0), (2, 0), (0, 0), (0, 0), (0, 0), (0, 0), (0, 0), (0, 0)])) fun f235 => h_t (gX4_init (n + 73) f235 (n + 72)) fun f238 => h_t (h_p f238 (n + 5) 22 (1, (n + 72))) fun f241 => h_t (h_u f241 (n + 75) (0, 4, [(2, 0), (2, 0), (0, 0), (0, 0), (0, 0), (0, 0), (0, 0), (0, 0)])) fun f244 => h_t (gX4_init (n + 76) f244 (n + 75)) fun f247 => h_t (h_p f247 (n + 5) 23 (1, (n + 75))) fun f250 => f250
set_option maxRecDepth 100000 in
set_option maxHeartbeats 8000000 in
theorem wX1_init {n a : Nat} {f f1 : FH} (hO : isO f n a 1) (hF : gX1_init n f a = f1) : h_K f n a f1 := by
  unfold gX1_init at hF
  obtain ⟨f1, h2, hF⟩ := h_tE hF
  have Oq3 : isO f1 (n + 1) a 1 := by rw [h2]; exact hO.new
  have Kq3 : h_K f n a f1 := by rw [h2]; exact (h_K.rf (f := f) (n := n) (a := a)).new (by omega) hO.1
  obtain ⟨f4, h5, hF⟩ := h_tE hF
  have Oq6 : isO f4 (n + 1) a 1 := by rw [h5]; exact Oq3.put
  have Kq6 : h_K f n a f4 := by rw [h5]; exact Kq3.put
  obtain ⟨f7, h8, hF⟩ := h_tE hF
  have Oq9 : isO f7 (n + 2) a 1 := by rw [h8]; exact Oq6.new
  have Kq9 : h_K f n a f7 := by rw [h8]; exact Kq6.new (by omega) hO.1
  obtain ⟨f10, h11, hF⟩ := h_tE hF
  have Oq12 : isO f10 (n + 2) a 1 := by rw [h11]; exact Oq9.put
  have Kq12 : h_K f n a f10 := by rw [h11]; exact Kq9.put
  obtain ⟨f13, h14, hF⟩ := h_tE hF
  have Oq15 : isO f13 (n + 3) a 1 := by rw [h14]; exact Oq12.new
  have Kq15 : h_K f n a f13 := by rw [h14]; exact Kq12.new (by omega) hO.1
  obtain ⟨f16, h17, hF⟩ := h_tE hF
  have Oq18 : isO f16 (n + 3) a 1 := by rw [h17]; exact Oq15.put
  have Kq18 : h_K f n a f16 := by rw [h17]; exact Kq15.put
  obtain ⟨f19, h20, hF⟩ := h_tE hF
  have Oq21 : isO f19 (n + 4) a 1 := by rw [h20]; exact Oq18.new
  have Kq21 : h_K f n a f19 := by rw [h20]; exact Kq18.new (by omega) hO.1
  obtain ⟨f22, h23, hF⟩ := h_tE hF
  have Oq24 : isO f22 (n + 4) a 1 := by rw [h23]; exact Oq21.put
  have Kq24 : h_K f n a f22 := by rw [h23]; exact Kq21.put
  obtain ⟨f25, h26, hF⟩ := h_tE hF
  have Oq27 : isO f25 (n + 5) a 1 := by rw [h26]; exact Oq24.new
  have Kq27 : h_K f n a f25 := by rw [h26]; exact Kq24.new (by omega) hO.1
  obtain ⟨f28, h29, hF⟩ := h_tE hF
  have Oq30 : isO f28 (n + 5) a 1 := by rw [h29]; exact Oq27.put
  have Kq30 : h_K f n a f28 := by rw [h29]; exact Kq27.put
  obtain ⟨f31, h32, hF⟩ := h_tE hF
  have Oq33 : isO f31 (n + 6) a 1 := by rw [h32]; exact Oq30.new
  have Kq33 : h_K f n a f31 := by rw [h32]; exact Kq30.new (by omega) hO.1
  have R0h32 : isR f31 (n + 6) (n + 5) 5 24 := by rw [h32]; exact isR.here (List.length_replicate ..)
  obtain ⟨f34, h35, hF⟩ := h_tE hF
  have Oq36 : isO f34 (n + 6) a 1 := by rw [h35]; exact Oq33.put
  have Kq36 : h_K f n a f34 := by rw [h35]; exact Kq33.put
  have Rq36_5 : isR f34 (n + 6) (n + 5) 5 24 := by rw [h35]; exact R0h32.put
  have G0h35 : h_g f34 a 5 (1, (n + 5)) := by rw [h35]; exact h_g.here Oq33 (by decide)
  obtain ⟨f37, h38, hF⟩ := h_tE hF
  have Oq39 : isO f37 (n + 7) a 1 := by rw [h38]; exact Oq36.new
  have Kq39 : h_K f n a f37 := by rw [h38]; exact Kq36.new (by omega) hO.1
  have Gq39_5 : h_g f37 a 5 (1, (n + 5)) := by rw [h38]; exact G0h35.new (by have := hO.1; omega)
  have Rq39_5 : isR f37 (n + 7) (n + 5) 5 24 := by rw [h38]; exact Rq36_5.new
  have F0h38 : isO f37 (n + 7) (n + 6) 4 := by rw [h38]; exact isO.here rfl
  obtain ⟨f40, h41, hF⟩ := h_tE hF
  have Ch41 : h_K f37 (n + 7) (n + 6) f40 := by rw [h41]; exact wX4_init F0h38 rfl
  have Oq42 : isO f40 (n + 9) a 1 := Oq39.call Ch41 (by omega)
  have Kq42 : h_K f n a f40 := Kq39.call Ch41 (by omega) (by omega) hO.1
  have Fq42_6 : isO f40 (n + 9) (n + 6) 4 := F0h38.call Ch41 (by omega)
  have Gq42_5 : h_g f40 a 5 (1, (n + 5)) := Gq39_5.call Ch41 Oq39.1 (by have := hO.1; omega)
  have Rq42_5 : isR f40 (n + 9) (n + 5) 5 24 := Rq39_5.call Ch41 (by omega)
  obtain ⟨f43, h44, hF⟩ := h_tE hF
  have Oq45 : isO f43 (n + 9) a 1 := by rw [h44]; exact Oq42.put
  have Kq45 : h_K f n a f43 := by rw [h44]; exact Kq42.far (by omega) hO.1
  have Fq45_13 : isO f43 (n + 9) (n + 6) 4 := by rw [h44]; exact Fq42_6.put
  have Gq45_5 : h_g f43 a 5 (1, (n + 5)) := by rw [h44]; exact Gq42_5.far (by have := hO.1; omega)
  have Rq45_5 : isR f43 (n + 9) (n + 5) 5 24 := by rw [h44]; exact Rq42_5.put
  obtain ⟨f46, h47, hF⟩ := h_tE hF
  have Oq48 : isO f46 (n + 10) a 1 := by rw [h47]; exact Oq45.new
  have Kq48 : h_K f n a f46 := by rw [h47]; exact Kq45.new (by omega) hO.1
  have Gq48_5 : h_g f46 a 5 (1, (n + 5)) := by rw [h47]; exact Gq45_5.new (by have := hO.1; omega)
  have Rq48_5 : isR f46 (n + 10) (n + 5) 5 24 := by rw [h47]; exact Rq45_5.new
  have F0h47 : isO f46 (n + 10) (n + 9) 4 := by rw [h47]; exact isO.here rfl
  obtain ⟨f49, h50, hF⟩ := h_tE hF
  have Ch50 : h_K f46 (n + 10) (n + 9) f49 := by rw [h50]; exact wX4_init F0h47 rfl
  have Oq51 : isO f49 (n + 12) a 1 := Oq48.call Ch50 (by omega)
  have Kq51 : h_K f n a f49 := Kq48.call Ch50 (by omega) (by omega) hO.1
  have Fq51_9 : isO f49 (n + 12) (n + 9) 4 := F0h47.call Ch50 (by omega)
  have Gq51_5 : h_g f49 a 5 (1, (n + 5)) := Gq48_5.call Ch50 Oq48.1 (by have := hO.1; omega)
  have Rq51_5 : isR f49 (n + 12) (n + 5) 5 24 := Rq48_5.call Ch50 (by omega)
  obtain ⟨f52, h53, hF⟩ := h_tE hF
  have Oq54 : isO f52 (n + 12) a 1 := by rw [h53]; exact Oq51.put
  have Kq54 : h_K f n a f52 := by rw [h53]; exact Kq51.far (by omega) hO.1
  have Fq54_16 : isO f52 (n + 12) (n + 9) 4 := by rw [h53]; exact Fq51_9.put
  have Gq54_5 : h_g f52 a 5 (1, (n + 5)) := by rw [h53]; exact Gq51_5.far (by have := hO.1; omega)
  have Rq54_5 : isR f52 (n + 12) (n + 5) 5 24 := by rw [h53]; exact Rq51_5.put
  obtain ⟨f55, h56, hF⟩ := h_tE hF
  have Oq57 : isO f55 (n + 13) a 1 := by rw [h56]; exact Oq54.new
  have Kq57 : h_K f n a f55 := by rw [h56]; exact Kq54.new (by omega) hO.1
  have Gq57_5 : h_g f55 a 5 (1, (n + 5)) := by rw [h56]; exact Gq54_5.new (by have := hO.1; omega)
  have Rq57_5 : isR f55 (n + 13) (n + 5) 5 24 := by rw [h56]; exact Rq54_5.new
  have F0h56 : isO f55 (n + 13) (n + 12) 4 := by rw [h56]; exact isO.here rfl
  obtain ⟨f58, h59, hF⟩ := h_tE hF
  have Ch59 : h_K f55 (n + 13) (n + 12) f58 := by rw [h59]; exact wX4_init F0h56 rfl
  have Oq60 : isO f58 (n + 15) a 1 := Oq57.call Ch59 (by omega)
  have Kq60 : h_K f n a f58 := Kq57.call Ch59 (by omega) (by omega) hO.1
  have Fq60_12 : isO f58 (n + 15) (n + 12) 4 := F0h56.call Ch59 (by omega)
  have Gq60_5 : h_g f58 a 5 (1, (n + 5)) := Gq57_5.call Ch59 Oq57.1 (by have := hO.1; omega)
  have Rq60_5 : isR f58 (n + 15) (n + 5) 5 24 := Rq57_5.call Ch59 (by omega)
  obtain ⟨f61, h62, hF⟩ := h_tE hF
  have Oq63 : isO f61 (n + 15) a 1 := by rw [h62]; exact Oq60.put
  have Kq63 : h_K f n a f61 := by rw [h62]; exact Kq60.far (by omega) hO.1
  have Fq63_20 : isO f61 (n + 15) (n + 12) 4 := by rw [h62]; exact Fq60_12.put
  have Gq63_5 : h_g f61 a 5 (1, (n + 5)) := by rw [h62]; exact Gq60_5.far (by have := hO.1; omega)
  have Rq63_5 : isR f61 (n + 15) (n + 5) 5 24 := by rw [h62]; exact Rq60_5.put
  obtain ⟨f64, h65, hF⟩ := h_tE hF
  have Oq66 : isO f64 (n + 16) a 1 := by rw [h65]; exact Oq63.new
  have Kq66 : h_K f n a f64 := by rw [h65]; exact Kq63.new (by omega) hO.1
  have Gq66_5 : h_g f64 a 5 (1, (n + 5)) := by rw [h65]; exact Gq63_5.new (by have := hO.1; omega)
  have Rq66_5 : isR f64 (n + 16) (n + 5) 5 24 := by rw [h65]; exact Rq63_5.new
  have F0h65 : isO f64 (n + 16) (n + 15) 4 := by rw [h65]; exact isO.here rfl
  obtain ⟨f67, h68, hF⟩ := h_tE hF
  have Ch68 : h_K f64 (n + 16) (n + 15) f67 := by rw [h68]; exact wX4_init F0h65 rfl
  have Oq69 : isO f67 (n + 18) a 1 := Oq66.call Ch68 (by omega)
  have Kq69 : h_K f n a f67 := Kq66.call Ch68 (by omega) (by omega) hO.1
  have Fq69_15 : isO f67 (n + 18) (n + 15) 4 := F0h65.call Ch68 (by omega)
  have Gq69_5 : h_g f67 a 5 (1, (n + 5)) := Gq66_5.call Ch68 Oq66.1 (by have := hO.1; omega)
  have Rq69_5 : isR f67 (n + 18) (n + 5) 5 24 := Rq66_5.call Ch68 (by omega)
  obtain ⟨f70, h71, hF⟩ := h_tE hF
  have Oq72 : isO f70 (n + 18) a 1 := by rw [h71]; exact Oq69.put
  have Kq72 : h_K f n a f70 := by rw [h71]; exact Kq69.far (by omega) hO.1
  have Fq72_23 : isO f70 (n + 18) (n + 15) 4 := by rw [h71]; exact Fq69_15.put
  have Gq72_5 : h_g f70 a 5 (1, (n + 5)) := by rw [h71]; exact Gq69_5.far (by have := hO.1; omega)
  have Rq72_5 : isR f70 (n + 18) (n + 5) 5 24 := by rw [h71]; exact Rq69_5.put
  obtain ⟨f73, h74, hF⟩ := h_tE hF
  have Oq75 : isO f73 (n + 19) a 1 := by rw [h74]; exact Oq72.new
  have Kq75 : h_K f n a f73 := by rw [h74]; exact Kq72.new (by omega) hO.1
  have Gq75_5 : h_g f73 a 5 (1, (n + 5)) := by rw [h74]; exact Gq72_5.new (by have := hO.1; omega)
  have Rq75_5 : isR f73 (n + 19) (n + 5) 5 24 := by rw [h74]; exact Rq72_5.new
  have F0h74 : isO f73 (n + 19) (n + 18) 4 := by rw [h74]; exact isO.here rfl
  obtain ⟨f76, h77, hF⟩ := h_tE hF
  have Ch77 : h_K f73 (n + 19) (n + 18) f76 := by rw [h77]; exact wX4_init F0h74 rfl
  have Oq78 : isO f76 (n + 21) a 1 := Oq75.call Ch77 (by omega)
  have Kq78 : h_K f n a f76 := Kq75.call Ch77 (by omega) (by omega) hO.1
  have Fq78_18 : isO f76 (n + 21) (n + 18) 4 := F0h74.call Ch77 (by omega)
  have Gq78_5 : h_g f76 a 5 (1, (n + 5)) := Gq75_5.call Ch77 Oq75.1 (by have := hO.1; omega)
  have Rq78_5 : isR f76 (n + 21) (n + 5) 5 24 := Rq75_5.call Ch77 (by omega)
  obtain ⟨f79, h80, hF⟩ := h_tE hF
  have Oq81 : isO f79 (n + 21) a 1 := by rw [h80]; exact Oq78.put
  have Kq81 : h_K f n a f79 := by rw [h80]; exact Kq78.far (by omega) hO.1
  have Fq81_26 : isO f79 (n + 21) (n + 18) 4 := by rw [h80]; exact Fq78_18.put
  have Gq81_5 : h_g f79 a 5 (1, (n + 5)) := by rw [h80]; exact Gq78_5.far (by have := hO.1; omega)
  have Rq81_5 : isR f79 (n + 21) (n + 5) 5 24 := by rw [h80]; exact Rq78_5.put
  obtain ⟨f82, h83, hF⟩ := h_tE hF
  have Oq84 : isO f82 (n + 22) a 1 := by rw [h83]; exact Oq81.new
  have Kq84 : h_K f n a f82 := by rw [h83]; exact Kq81.new (by omega) hO.1
  have Gq84_5 : h_g f82 a 5 (1, (n + 5)) := by rw [h83]; exact Gq81_5.new (by have := hO.1; omega)
  have Rq84_5 : isR f82 (n + 22) (n + 5) 5 24 := by rw [h83]; exact Rq81_5.new
  have F0h83 : isO f82 (n + 22) (n + 21) 4 := by rw [h83]; exact isO.here rfl
  obtain ⟨f85, h86, hF⟩ := h_tE hF
  have Ch86 : h_K f82 (n + 22) (n + 21) f85 := by rw [h86]; exact wX4_init F0h83 rfl
  have Oq87 : isO f85 (n + 24) a 1 := Oq84.call Ch86 (by omega)
  have Kq87 : h_K f n a f85 := Kq84.call Ch86 (by omega) (by omega) hO.1
  have Fq87_21 : isO f85 (n + 24) (n + 21) 4 := F0h83.call Ch86 (by omega)
  have Gq87_5 : h_g f85 a 5 (1, (n + 5)) := Gq84_5.call Ch86 Oq84.1 (by have := hO.1; omega)
  have Rq87_5 : isR f85 (n + 24) (n + 5) 5 24 := Rq84_5.call Ch86 (by omega)
  obtain ⟨f88, h89, hF⟩ := h_tE hF
  have Oq90 : isO f88 (n + 24) a 1 := by rw [h89]; exact Oq87.put
  have Kq90 : h_K f n a f88 := by rw [h89]; exact Kq87.far (by omega) hO.1
  have Fq90_29 : isO f88 (n + 24) (n + 21) 4 := by rw [h89]; exact Fq87_21.put
  have Gq90_5 : h_g f88 a 5 (1, (n + 5)) := by rw [h89]; exact Gq87_5.far (by have := hO.1; omega)
  have Rq90_5 : isR f88 (n + 24) (n + 5) 5 24 := by rw [h89]; exact Rq87_5.put
  obtain ⟨f91, h92, hF⟩ := h_tE hF
  have Oq93 : isO f91 (n + 25) a 1 := by rw [h92]; exact Oq90.new
  have Kq93 : h_K f n a f91 := by rw [h92]; exact Kq90.new (by omega) hO.1
  have Gq93_5 : h_g f91 a 5 (1, (n + 5)) := by rw [h92]; exact Gq90_5.new (by have := hO.1; omega)
  have Rq93_5 : isR f91 (n + 25) (n + 5) 5 24 := by rw [h92]; exact Rq90_5.new
  have F0h92 : isO f91 (n + 25) (n + 24) 4 := by rw [h92]; exact isO.here rfl
  obtain ⟨f94, h95, hF⟩ := h_tE hF
  have Ch95 : h_K f91 (n + 25) (n + 24) f94 := by rw [h95]; exact wX4_init F0h92 rfl
  have Oq96 : isO f94 (n + 27) a 1 := Oq93.call Ch95 (by omega)
  have Kq96 : h_K f n a f94 := Kq93.call Ch95 (by omega) (by omega) hO.1
  have Fq96_24 : isO f94 (n + 27) (n + 24) 4 := F0h92.call Ch95 (by omega)
  have Gq96_5 : h_g f94 a 5 (1, (n + 5)) := Gq93_5.call Ch95 Oq93.1 (by have := hO.1; omega)
  have Rq96_5 : isR f94 (n + 27) (n + 5) 5 24 := Rq93_5.call Ch95 (by omega)
  obtain ⟨f97, h98, hF⟩ := h_tE hF
  have Oq99 : isO f97 (n + 27) a 1 := by rw [h98]; exact Oq96.put
  have Kq99 : h_K f n a f97 := by rw [h98]; exact Kq96.far (by omega) hO.1
  have Fq99_32 : isO f97 (n + 27) (n + 24) 4 := by rw [h98]; exact Fq96_24.put
  have Gq99_5 : h_g f97 a 5 (1, (n + 5)) := by rw [h98]; exact Gq96_5.far (by have := hO.1; omega)
  have Rq99_5 : isR f97 (n + 27) (n + 5) 5 24 := by rw [h98]; exact Rq96_5.put
  obtain ⟨f100, h101, hF⟩ := h_tE hF
  have Oq102 : isO f100 (n + 28) a 1 := by rw [h101]; exact Oq99.new
  have Kq102 : h_K f n a f100 := by rw [h101]; exact Kq99.new (by omega) hO.1
  have Gq102_5 : h_g f100 a 5 (1, (n + 5)) := by rw [h101]; exact Gq99_5.new (by have := hO.1; omega)
  have Rq102_5 : isR f100 (n + 28) (n + 5) 5 24 := by rw [h101]; exact Rq99_5.new
  have F0h101 : isO f100 (n + 28) (n + 27) 4 := by rw [h101]; exact isO.here rfl
  obtain ⟨f103, h104, hF⟩ := h_tE hF
  have Ch104 : h_K f100 (n + 28) (n + 27) f103 := by rw [h104]; exact wX4_init F0h101 rfl
  have Oq105 : isO f103 (n + 30) a 1 := Oq102.call Ch104 (by omega)
  have Kq105 : h_K f n a f103 := Kq102.call Ch104 (by omega) (by omega) hO.1
  have Fq105_27 : isO f103 (n + 30) (n + 27) 4 := F0h101.call Ch104 (by omega)
  have Gq105_5 : h_g f103 a 5 (1, (n + 5)) := Gq102_5.call Ch104 Oq102.1 (by have := hO.1; omega)
  have Rq105_5 : isR f103 (n + 30) (n + 5) 5 24 := Rq102_5.call Ch104 (by omega)
  obtain ⟨f106, h107, hF⟩ := h_tE hF
  have Oq108 : isO f106 (n + 30) a 1 := by rw [h107]; exact Oq105.put
  have Kq108 : h_K f n a f106 := by rw [h107]; exact Kq105.far (by omega) hO.1
  have Fq108_35 : isO f106 (n + 30) (n + 27) 4 := by rw [h107]; exact Fq105_27.put
  have Gq108_5 : h_g f106 a 5 (1, (n + 5)) := by rw [h107]; exact Gq105_5.far (by have := hO.1; omega)
  have Rq108_5 : isR f106 (n + 30) (n + 5) 5 24 := by rw [h107]; exact Rq105_5.put
  obtain ⟨f109, h110, hF⟩ := h_tE hF
  have Oq111 : isO f109 (n + 31) a 1 := by rw [h110]; exact Oq108.new
  have Kq111 : h_K f n a f109 := by rw [h110]; exact Kq108.new (by omega) hO.1
  have Gq111_5 : h_g f109 a 5 (1, (n + 5)) := by rw [h110]; exact Gq108_5.new (by have := hO.1; omega)
  have Rq111_5 : isR f109 (n + 31) (n + 5) 5 24 := by rw [h110]; exact Rq108_5.new
  have F0h110 : isO f109 (n + 31) (n + 30) 4 := by rw [h110]; exact isO.here rfl
  obtain ⟨f112, h113, hF⟩ := h_tE hF
  have Ch113 : h_K f109 (n + 31) (n + 30) f112 := by rw [h113]; exact wX4_init F0h110 rfl
  have Oq114 : isO f112 (n + 33) a 1 := Oq111.call Ch113 (by omega)
  have Kq114 : h_K f n a f112 := Kq111.call Ch113 (by omega) (by omega) hO.1
  have Fq114_30 : isO f112 (n + 33) (n + 30) 4 := F0h110.call Ch113 (by omega)
  have Gq114_5 : h_g f112 a 5 (1, (n + 5)) := Gq111_5.call Ch113 Oq111.1 (by have := hO.1; omega)
  have Rq114_5 : isR f112 (n + 33) (n + 5) 5 24 := Rq111_5.call Ch113 (by omega)
  obtain ⟨f115, h116, hF⟩ := h_tE hF
  have Oq117 : isO f115 (n + 33) a 1 := by rw [h116]; exact Oq114.put
  have Kq117 : h_K f n a f115 := by rw [h116]; exact Kq114.far (by omega) hO.1
  have Fq117_38 : isO f115 (n + 33) (n + 30) 4 := by rw [h116]; exact Fq114_30.put
  have Gq117_5 : h_g f115 a 5 (1, (n + 5)) := by rw [h116]; exact Gq114_5.far (by have := hO.1; omega)
  have Rq117_5 : isR f115 (n + 33) (n + 5) 5 24 := by rw [h116]; exact Rq114_5.put
  obtain ⟨f118, h119, hF⟩ := h_tE hF
  have Oq120 : isO f118 (n + 34) a 1 := by rw [h119]; exact Oq117.new
  have Kq120 : h_K f n a f118 := by rw [h119]; exact Kq117.new (by omega) hO.1
  have Gq120_5 : h_g f118 a 5 (1, (n + 5)) := by rw [h119]; exact Gq117_5.new (by have := hO.1; omega)
  have Rq120_5 : isR f118 (n + 34) (n + 5) 5 24 := by rw [h119]; exact Rq117_5.new
  have F0h119 : isO f118 (n + 34) (n + 33) 4 := by rw [h119]; exact isO.here rfl
  obtain ⟨f121, h122, hF⟩ := h_tE hF
  have Ch122 : h_K f118 (n + 34) (n + 33) f121 := by rw [h122]; exact wX4_init F0h119 rfl
  have Oq123 : isO f121 (n + 36) a 1 := Oq120.call Ch122 (by omega)
  have Kq123 : h_K f n a f121 := Kq120.call Ch122 (by omega) (by omega) hO.1
  have Fq123_33 : isO f121 (n + 36) (n + 33) 4 := F0h119.call Ch122 (by omega)
  have Gq123_5 : h_g f121 a 5 (1, (n + 5)) := Gq120_5.call Ch122 Oq120.1 (by have := hO.1; omega)
  have Rq123_5 : isR f121 (n + 36) (n + 5) 5 24 := Rq120_5.call Ch122 (by omega)
  obtain ⟨f124, h125, hF⟩ := h_tE hF
  have Oq126 : isO f124 (n + 36) a 1 := by rw [h125]; exact Oq123.put
  have Kq126 : h_K f n a f124 := by rw [h125]; exact Kq123.far (by omega) hO.1
  have Fq126_41 : isO f124 (n + 36) (n + 33) 4 := by rw [h125]; exact Fq123_33.put
  have Gq126_5 : h_g f124 a 5 (1, (n + 5)) := by rw [h125]; exact Gq123_5.far (by have := hO.1; omega)
  have Rq126_5 : isR f124 (n + 36) (n + 5) 5 24 := by rw [h125]; exact Rq123_5.put
  obtain ⟨f127, h128, hF⟩ := h_tE hF
  have Oq129 : isO f127 (n + 37) a 1 := by rw [h128]; exact Oq126.new
  have Kq129 : h_K f n a f127 := by rw [h128]; exact Kq126.new (by omega) hO.1
  have Gq129_5 : h_g f127 a 5 (1, (n + 5)) := by rw [h128]; exact Gq126_5.new (by have := hO.1; omega)
  have Rq129_5 : isR f127 (n + 37) (n + 5) 5 24 := by rw [h128]; exact Rq126_5.new
  have F0h128 : isO f127 (n + 37) (n + 36) 4 := by rw [h128]; exact isO.here rfl
  obtain ⟨f130, h131, hF⟩ := h_tE hF
  have Ch131 : h_K f127 (n + 37) (n + 36) f130 := by rw [h131]; exact wX4_init F0h128 rfl
  have Oq132 : isO f130 (n + 39) a 1 := Oq129.call Ch131 (by omega)
  have Kq132 : h_K f n a f130 := Kq129.call Ch131 (by omega) (by omega) hO.1
  have Fq132_36 : isO f130 (n + 39) (n + 36) 4 := F0h128.call Ch131 (by omega)
  have Gq132_5 : h_g f130 a 5 (1, (n + 5)) := Gq129_5.call Ch131 Oq129.1 (by have := hO.1; omega)
  have Rq132_5 : isR f130 (n + 39) (n + 5) 5 24 := Rq129_5.call Ch131 (by omega)
  obtain ⟨f133, h134, hF⟩ := h_tE hF
  have Oq135 : isO f133 (n + 39) a 1 := by rw [h134]; exact Oq132.put
  have Kq135 : h_K f n a f133 := by rw [h134]; exact Kq132.far (by omega) hO.1
  have Fq135_44 : isO f133 (n + 39) (n + 36) 4 := by rw [h134]; exact Fq132_36.put
  have Gq135_5 : h_g f133 a 5 (1, (n + 5)) := by rw [h134]; exact Gq132_5.far (by have := hO.1; omega)
  have Rq135_5 : isR f133 (n + 39) (n + 5) 5 24 := by rw [h134]; exact Rq132_5.put
  obtain ⟨f136, h137, hF⟩ := h_tE hF
  have Oq138 : isO f136 (n + 40) a 1 := by rw [h137]; exact Oq135.new
  have Kq138 : h_K f n a f136 := by rw [h137]; exact Kq135.new (by omega) hO.1
  have Gq138_5 : h_g f136 a 5 (1, (n + 5)) := by rw [h137]; exact Gq135_5.new (by have := hO.1; omega)
  have Rq138_5 : isR f136 (n + 40) (n + 5) 5 24 := by rw [h137]; exact Rq135_5.new
  have F0h137 : isO f136 (n + 40) (n + 39) 4 := by rw [h137]; exact isO.here rfl
  obtain ⟨f139, h140, hF⟩ := h_tE hF
  have Ch140 : h_K f136 (n + 40) (n + 39) f139 := by rw [h140]; exact wX4_init F0h137 rfl
  have Oq141 : isO f139 (n + 42) a 1 := Oq138.call Ch140 (by omega)
  have Kq141 : h_K f n a f139 := Kq138.call Ch140 (by omega) (by omega) hO.1
  have Fq141_39 : isO f139 (n + 42) (n + 39) 4 := F0h137.call Ch140 (by omega)
  have Gq141_5 : h_g f139 a 5 (1, (n + 5)) := Gq138_5.call Ch140 Oq138.1 (by have := hO.1; omega)
  have Rq141_5 : isR f139 (n + 42) (n + 5) 5 24 := Rq138_5.call Ch140 (by omega)
  obtain ⟨f142, h143, hF⟩ := h_tE hF
  have Oq144 : isO f142 (n + 42) a 1 := by rw [h143]; exact Oq141.put
  have Kq144 : h_K f n a f142 := by rw [h143]; exact Kq141.far (by omega) hO.1
  have Fq144_47 : isO f142 (n + 42) (n + 39) 4 := by rw [h143]; exact Fq141_39.put
  have Gq144_5 : h_g f142 a 5 (1, (n + 5)) := by rw [h143]; exact Gq141_5.far (by have := hO.1; omega)
  have Rq144_5 : isR f142 (n + 42) (n + 5) 5 24 := by rw [h143]; exact Rq141_5.put
  obtain ⟨f145, h146, hF⟩ := h_tE hF
  have Oq147 : isO f145 (n + 43) a 1 := by rw [h146]; exact Oq144.new
  have Kq147 : h_K f n a f145 := by rw [h146]; exact Kq144.new (by omega) hO.1
  have Gq147_5 : h_g f145 a 5 (1, (n + 5)) := by rw [h146]; exact Gq144_5.new (by have := hO.1; omega)
  have Rq147_5 : isR f145 (n + 43) (n + 5) 5 24 := by rw [h146]; exact Rq144_5.new
  have F0h146 : isO f145 (n + 43) (n + 42) 4 := by rw [h146]; exact isO.here rfl
  obtain ⟨f148, h149, hF⟩ := h_tE hF
  have Ch149 : h_K f145 (n + 43) (n + 42) f148 := by rw [h149]; exact wX4_init F0h146 rfl
  have Oq150 : isO f148 (n + 45) a 1 := Oq147.call Ch149 (by omega)
  have Kq150 : h_K f n a f148 := Kq147.call Ch149 (by omega) (by omega) hO.1
  have Fq150_42 : isO f148 (n + 45) (n + 42) 4 := F0h146.call Ch149 (by omega)
  have Gq150_5 : h_g f148 a 5 (1, (n + 5)) := Gq147_5.call Ch149 Oq147.1 (by have := hO.1; omega)
  have Rq150_5 : isR f148 (n + 45) (n + 5) 5 24 := Rq147_5.call Ch149 (by omega)
  obtain ⟨f151, h152, hF⟩ := h_tE hF
  have Oq153 : isO f151 (n + 45) a 1 := by rw [h152]; exact Oq150.put
  have Kq153 : h_K f n a f151 := by rw [h152]; exact Kq150.far (by omega) hO.1
  have Fq153_50 : isO f151 (n + 45) (n + 42) 4 := by rw [h152]; exact Fq150_42.put
  have Gq153_5 : h_g f151 a 5 (1, (n + 5)) := by rw [h152]; exact Gq150_5.far (by have := hO.1; omega)
  have Rq153_5 : isR f151 (n + 45) (n + 5) 5 24 := by rw [h152]; exact Rq150_5.put
  obtain ⟨f154, h155, hF⟩ := h_tE hF
  have Oq156 : isO f154 (n + 46) a 1 := by rw [h155]; exact Oq153.new
  have Kq156 : h_K f n a f154 := by rw [h155]; exact Kq153.new (by omega) hO.1
  have Gq156_5 : h_g f154 a 5 (1, (n + 5)) := by rw [h155]; exact Gq153_5.new (by have := hO.1; omega)
  have Rq156_5 : isR f154 (n + 46) (n + 5) 5 24 := by rw [h155]; exact Rq153_5.new
  have F0h155 : isO f154 (n + 46) (n + 45) 4 := by rw [h155]; exact isO.here rfl
  obtain ⟨f157, h158, hF⟩ := h_tE hF
  have Ch158 : h_K f154 (n + 46) (n + 45) f157 := by rw [h158]; exact wX4_init F0h155 rfl
  have Oq159 : isO f157 (n + 48) a 1 := Oq156.call Ch158 (by omega)
  have Kq159 : h_K f n a f157 := Kq156.call Ch158 (by omega) (by omega) hO.1
  have Fq159_45 : isO f157 (n + 48) (n + 45) 4 := F0h155.call Ch158 (by omega)
  have Gq159_5 : h_g f157 a 5 (1, (n + 5)) := Gq156_5.call Ch158 Oq156.1 (by have := hO.1; omega)
  have Rq159_5 : isR f157 (n + 48) (n + 5) 5 24 := Rq156_5.call Ch158 (by omega)
  obtain ⟨f160, h161, hF⟩ := h_tE hF
  have Oq162 : isO f160 (n + 48) a 1 := by rw [h161]; exact Oq159.put
  have Kq162 : h_K f n a f160 := by rw [h161]; exact Kq159.far (by omega) hO.1
  have Fq162_53 : isO f160 (n + 48) (n + 45) 4 := by rw [h161]; exact Fq159_45.put
  have Gq162_5 : h_g f160 a 5 (1, (n + 5)) := by rw [h161]; exact Gq159_5.far (by have := hO.1; omega)
  have Rq162_5 : isR f160 (n + 48) (n + 5) 5 24 := by rw [h161]; exact Rq159_5.put
  obtain ⟨f163, h164, hF⟩ := h_tE hF
  have Oq165 : isO f163 (n + 49) a 1 := by rw [h164]; exact Oq162.new
  have Kq165 : h_K f n a f163 := by rw [h164]; exact Kq162.new (by omega) hO.1
  have Gq165_5 : h_g f163 a 5 (1, (n + 5)) := by rw [h164]; exact Gq162_5.new (by have := hO.1; omega)
  have Rq165_5 : isR f163 (n + 49) (n + 5) 5 24 := by rw [h164]; exact Rq162_5.new
  have F0h164 : isO f163 (n + 49) (n + 48) 4 := by rw [h164]; exact isO.here rfl
  obtain ⟨f166, h167, hF⟩ := h_tE hF
  have Ch167 : h_K f163 (n + 49) (n + 48) f166 := by rw [h167]; exact wX4_init F0h164 rfl
  have Oq168 : isO f166 (n + 51) a 1 := Oq165.call Ch167 (by omega)
  have Kq168 : h_K f n a f166 := Kq165.call Ch167 (by omega) (by omega) hO.1
  have Fq168_48 : isO f166 (n + 51) (n + 48) 4 := F0h164.call Ch167 (by omega)
  have Gq168_5 : h_g f166 a 5 (1, (n + 5)) := Gq165_5.call Ch167 Oq165.1 (by have := hO.1; omega)
  have Rq168_5 : isR f166 (n + 51) (n + 5) 5 24 := Rq165_5.call Ch167 (by omega)
  obtain ⟨f169, h170, hF⟩ := h_tE hF
  have Oq171 : isO f169 (n + 51) a 1 := by rw [h170]; exact Oq168.put
  have Kq171 : h_K f n a f169 := by rw [h170]; exact Kq168.far (by omega) hO.1
  have Fq171_56 : isO f169 (n + 51) (n + 48) 4 := by rw [h170]; exact Fq168_48.put
  have Gq171_5 : h_g f169 a 5 (1, (n + 5)) := by rw [h170]; exact Gq168_5.far (by have := hO.1; omega)
  have Rq171_5 : isR f169 (n + 51) (n + 5) 5 24 := by rw [h170]; exact Rq168_5.put
  obtain ⟨f172, h173, hF⟩ := h_tE hF
  have Oq174 : isO f172 (n + 52) a 1 := by rw [h173]; exact Oq171.new
  have Kq174 : h_K f n a f172 := by rw [h173]; exact Kq171.new (by omega) hO.1
  have Gq174_5 : h_g f172 a 5 (1, (n + 5)) := by rw [h173]; exact Gq171_5.new (by have := hO.1; omega)
  have Rq174_5 : isR f172 (n + 52) (n + 5) 5 24 := by rw [h173]; exact Rq171_5.new
  have F0h173 : isO f172 (n + 52) (n + 51) 4 := by rw [h173]; exact isO.here rfl
  obtain ⟨f175, h176, hF⟩ := h_tE hF
  have Ch176 : h_K f172 (n + 52) (n + 51) f175 := by rw [h176]; exact wX4_init F0h173 rfl
  have Oq177 : isO f175 (n + 54) a 1 := Oq174.call Ch176 (by omega)
  have Kq177 : h_K f n a f175 := Kq174.call Ch176 (by omega) (by omega) hO.1
  have Fq177_51 : isO f175 (n + 54) (n + 51) 4 := F0h173.call Ch176 (by omega)
  have Gq177_5 : h_g f175 a 5 (1, (n + 5)) := Gq174_5.call Ch176 Oq174.1 (by have := hO.1; omega)
  have Rq177_5 : isR f175 (n + 54) (n + 5) 5 24 := Rq174_5.call Ch176 (by omega)
  obtain ⟨f178, h179, hF⟩ := h_tE hF
  have Oq180 : isO f178 (n + 54) a 1 := by rw [h179]; exact Oq177.put
  have Kq180 : h_K f n a f178 := by rw [h179]; exact Kq177.far (by omega) hO.1
  have Fq180_59 : isO f178 (n + 54) (n + 51) 4 := by rw [h179]; exact Fq177_51.put
  have Gq180_5 : h_g f178 a 5 (1, (n + 5)) := by rw [h179]; exact Gq177_5.far (by have := hO.1; omega)
  have Rq180_5 : isR f178 (n + 54) (n + 5) 5 24 := by rw [h179]; exact Rq177_5.put
  obtain ⟨f181, h182, hF⟩ := h_tE hF
  have Oq183 : isO f181 (n + 55) a 1 := by rw [h182]; exact Oq180.new
  have Kq183 : h_K f n a f181 := by rw [h182]; exact Kq180.new (by omega) hO.1
  have Gq183_5 : h_g f181 a 5 (1, (n + 5)) := by rw [h182]; exact Gq180_5.new (by have := hO.1; omega)
  have Rq183_5 : isR f181 (n + 55) (n + 5) 5 24 := by rw [h182]; exact Rq180_5.new
  have F0h182 : isO f181 (n + 55) (n + 54) 4 := by rw [h182]; exact isO.here rfl
  obtain ⟨f184, h185, hF⟩ := h_tE hF
  have Ch185 : h_K f181 (n + 55) (n + 54) f184 := by rw [h185]; exact wX4_init F0h182 rfl
  have Oq186 : isO f184 (n + 57) a 1 := Oq183.call Ch185 (by omega)
  have Kq186 : h_K f n a f184 := Kq183.call Ch185 (by omega) (by omega) hO.1
  have Fq186_54 : isO f184 (n + 57) (n + 54) 4 := F0h182.call Ch185 (by omega)
  have Gq186_5 : h_g f184 a 5 (1, (n + 5)) := Gq183_5.call Ch185 Oq183.1 (by have := hO.1; omega)
  have Rq186_5 : isR f184 (n + 57) (n + 5) 5 24 := Rq183_5.call Ch185 (by omega)
  obtain ⟨f187, h188, hF⟩ := h_tE hF
  have Oq189 : isO f187 (n + 57) a 1 := by rw [h188]; exact Oq186.put
  have Kq189 : h_K f n a f187 := by rw [h188]; exact Kq186.far (by omega) hO.1
  have Fq189_62 : isO f187 (n + 57) (n + 54) 4 := by rw [h188]; exact Fq186_54.put
  have Gq189_5 : h_g f187 a 5 (1, (n + 5)) := by rw [h188]; exact Gq186_5.far (by have := hO.1; omega)
  have Rq189_5 : isR f187 (n + 57) (n + 5) 5 24 := by rw [h188]; exact Rq186_5.put
  obtain ⟨f190, h191, hF⟩ := h_tE hF
  have Oq192 : isO f190 (n + 58) a 1 := by rw [h191]; exact Oq189.new
  have Kq192 : h_K f n a f190 := by rw [h191]; exact Kq189.new (by omega) hO.1
  have Gq192_5 : h_g f190 a 5 (1, (n + 5)) := by rw [h191]; exact Gq189_5.new (by have := hO.1; omega)
  have Rq192_5 : isR f190 (n + 58) (n + 5) 5 24 := by rw [h191]; exact Rq189_5.new
  have F0h191 : isO f190 (n + 58) (n + 57) 4 := by rw [h191]; exact isO.here rfl
  obtain ⟨f193, h194, hF⟩ := h_tE hF
  have Ch194 : h_K f190 (n + 58) (n + 57) f193 := by rw [h194]; exact wX4_init F0h191 rfl
  have Oq195 : isO f193 (n + 60) a 1 := Oq192.call Ch194 (by omega)
  have Kq195 : h_K f n a f193 := Kq192.call Ch194 (by omega) (by omega) hO.1
  have Fq195_57 : isO f193 (n + 60) (n + 57) 4 := F0h191.call Ch194 (by omega)
  have Gq195_5 : h_g f193 a 5 (1, (n + 5)) := Gq192_5.call Ch194 Oq192.1 (by have := hO.1; omega)
  have Rq195_5 : isR f193 (n + 60) (n + 5) 5 24 := Rq192_5.call Ch194 (by omega)
  obtain ⟨f196, h197, hF⟩ := h_tE hF
  have Oq198 : isO f196 (n + 60) a 1 := by rw [h197]; exact Oq195.put
  have Kq198 : h_K f n a f196 := by rw [h197]; exact Kq195.far (by omega) hO.1
  have Fq198_65 : isO f196 (n + 60) (n + 57) 4 := by rw [h197]; exact Fq195_57.put
  have Gq198_5 : h_g f196 a 5 (1, (n + 5)) := by rw [h197]; exact Gq195_5.far (by have := hO.1; omega)
  have Rq198_5 : isR f196 (n + 60) (n + 5) 5 24 := by rw [h197]; exact Rq195_5.put
  obtain ⟨f199, h200, hF⟩ := h_tE hF
  have Oq201 : isO f199 (n + 61) a 1 := by rw [h200]; exact Oq198.new
  have Kq201 : h_K f n a f199 := by rw [h200]; exact Kq198.new (by omega) hO.1
  have Gq201_5 : h_g f199 a 5 (1, (n + 5)) := by rw [h200]; exact Gq198_5.new (by have := hO.1; omega)
  have Rq201_5 : isR f199 (n + 61) (n + 5) 5 24 := by rw [h200]; exact Rq198_5.new
  have F0h200 : isO f199 (n + 61) (n + 60) 4 := by rw [h200]; exact isO.here rfl
  obtain ⟨f202, h203, hF⟩ := h_tE hF
  have Ch203 : h_K f199 (n + 61) (n + 60) f202 := by rw [h203]; exact wX4_init F0h200 rfl
  have Oq204 : isO f202 (n + 63) a 1 := Oq201.call Ch203 (by omega)
  have Kq204 : h_K f n a f202 := Kq201.call Ch203 (by omega) (by omega) hO.1
  have Fq204_60 : isO f202 (n + 63) (n + 60) 4 := F0h200.call Ch203 (by omega)
  have Gq204_5 : h_g f202 a 5 (1, (n + 5)) := Gq201_5.call Ch203 Oq201.1 (by have := hO.1; omega)
  have Rq204_5 : isR f202 (n + 63) (n + 5) 5 24 := Rq201_5.call Ch203 (by omega)
  obtain ⟨f205, h206, hF⟩ := h_tE hF
  have Oq207 : isO f205 (n + 63) a 1 := by rw [h206]; exact Oq204.put
  have Kq207 : h_K f n a f205 := by rw [h206]; exact Kq204.far (by omega) hO.1
  have Fq207_68 : isO f205 (n + 63) (n + 60) 4 := by rw [h206]; exact Fq204_60.put
  have Gq207_5 : h_g f205 a 5 (1, (n + 5)) := by rw [h206]; exact Gq204_5.far (by have := hO.1; omega)
  have Rq207_5 : isR f205 (n + 63) (n + 5) 5 24 := by rw [h206]; exact Rq204_5.put
  obtain ⟨f208, h209, hF⟩ := h_tE hF
  have Oq210 : isO f208 (n + 64) a 1 := by rw [h209]; exact Oq207.new
  have Kq210 : h_K f n a f208 := by rw [h209]; exact Kq207.new (by omega) hO.1
  have Gq210_5 : h_g f208 a 5 (1, (n + 5)) := by rw [h209]; exact Gq207_5.new (by have := hO.1; omega)
  have Rq210_5 : isR f208 (n + 64) (n + 5) 5 24 := by rw [h209]; exact Rq207_5.new
  have F0h209 : isO f208 (n + 64) (n + 63) 4 := by rw [h209]; exact isO.here rfl
  obtain ⟨f211, h212, hF⟩ := h_tE hF
  have Ch212 : h_K f208 (n + 64) (n + 63) f211 := by rw [h212]; exact wX4_init F0h209 rfl
  have Oq213 : isO f211 (n + 66) a 1 := Oq210.call Ch212 (by omega)
  have Kq213 : h_K f n a f211 := Kq210.call Ch212 (by omega) (by omega) hO.1
  have Fq213_63 : isO f211 (n + 66) (n + 63) 4 := F0h209.call Ch212 (by omega)
  have Gq213_5 : h_g f211 a 5 (1, (n + 5)) := Gq210_5.call Ch212 Oq210.1 (by have := hO.1; omega)
  have Rq213_5 : isR f211 (n + 66) (n + 5) 5 24 := Rq210_5.call Ch212 (by omega)
  obtain ⟨f214, h215, hF⟩ := h_tE hF
  have Oq216 : isO f214 (n + 66) a 1 := by rw [h215]; exact Oq213.put
  have Kq216 : h_K f n a f214 := by rw [h215]; exact Kq213.far (by omega) hO.1
  have Fq216_71 : isO f214 (n + 66) (n + 63) 4 := by rw [h215]; exact Fq213_63.put
  have Gq216_5 : h_g f214 a 5 (1, (n + 5)) := by rw [h215]; exact Gq213_5.far (by have := hO.1; omega)
  have Rq216_5 : isR f214 (n + 66) (n + 5) 5 24 := by rw [h215]; exact Rq213_5.put
  obtain ⟨f217, h218, hF⟩ := h_tE hF
  have Oq219 : isO f217 (n + 67) a 1 := by rw [h218]; exact Oq216.new
  have Kq219 : h_K f n a f217 := by rw [h218]; exact Kq216.new (by omega) hO.1
  have Gq219_5 : h_g f217 a 5 (1, (n + 5)) := by rw [h218]; exact Gq216_5.new (by have := hO.1; omega)
  have Rq219_5 : isR f217 (n + 67) (n + 5) 5 24 := by rw [h218]; exact Rq216_5.new
  have F0h218 : isO f217 (n + 67) (n + 66) 4 := by rw [h218]; exact isO.here rfl
  obtain ⟨f220, h221, hF⟩ := h_tE hF
  have Ch221 : h_K f217 (n + 67) (n + 66) f220 := by rw [h221]; exact wX4_init F0h218 rfl
  have Oq222 : isO f220 (n + 69) a 1 := Oq219.call Ch221 (by omega)
  have Kq222 : h_K f n a f220 := Kq219.call Ch221 (by omega) (by omega) hO.1
  have Fq222_66 : isO f220 (n + 69) (n + 66) 4 := F0h218.call Ch221 (by omega)
  have Gq222_5 : h_g f220 a 5 (1, (n + 5)) := Gq219_5.call Ch221 Oq219.1 (by have := hO.1; omega)
  have Rq222_5 : isR f220 (n + 69) (n + 5) 5 24 := Rq219_5.call Ch221 (by omega)
  obtain ⟨f223, h224, hF⟩ := h_tE hF
  have Oq225 : isO f223 (n + 69) a 1 := by rw [h224]; exact Oq222.put
  have Kq225 : h_K f n a f223 := by rw [h224]; exact Kq222.far (by omega) hO.1
  have Fq225_74 : isO f223 (n + 69) (n + 66) 4 := by rw [h224]; exact Fq222_66.put
  have Gq225_5 : h_g f223 a 5 (1, (n + 5)) := by rw [h224]; exact Gq222_5.far (by have := hO.1; omega)
  have Rq225_5 : isR f223 (n + 69) (n + 5) 5 24 := by rw [h224]; exact Rq222_5.put
  obtain ⟨f226, h227, hF⟩ := h_tE hF
  have Oq228 : isO f226 (n + 70) a 1 := by rw [h227]; exact Oq225.new
  have Kq228 : h_K f n a f226 := by rw [h227]; exact Kq225.new (by omega) hO.1
  have Gq228_5 : h_g f226 a 5 (1, (n + 5)) := by rw [h227]; exact Gq225_5.new (by have := hO.1; omega)
  have Rq228_5 : isR f226 (n + 70) (n + 5) 5 24 := by rw [h227]; exact Rq225_5.new
  have F0h227 : isO f226 (n + 70) (n + 69) 4 := by rw [h227]; exact isO.here rfl
  obtain ⟨f229, h230, hF⟩ := h_tE hF
  have Ch230 : h_K f226 (n + 70) (n + 69) f229 := by rw [h230]; exact wX4_init F0h227 rfl
  have Oq231 : isO f229 (n + 72) a 1 := Oq228.call Ch230 (by omega)
  have Kq231 : h_K f n a f229 := Kq228.call Ch230 (by omega) (by omega) hO.1
  have Fq231_69 : isO f229 (n + 72) (n + 69) 4 := F0h227.call Ch230 (by omega)
  have Gq231_5 : h_g f229 a 5 (1, (n + 5)) := Gq228_5.call Ch230 Oq228.1 (by have := hO.1; omega)
  have Rq231_5 : isR f229 (n + 72) (n + 5) 5 24 := Rq228_5.call Ch230 (by omega)
  obtain ⟨f232, h233, hF⟩ := h_tE hF
  have Oq234 : isO f232 (n + 72) a 1 := by rw [h233]; exact Oq231.put
  have Kq234 : h_K f n a f232 := by rw [h233]; exact Kq231.far (by omega) hO.1
  have Fq234_77 : isO f232 (n + 72) (n + 69) 4 := by rw [h233]; exact Fq231_69.put
  have Gq234_5 : h_g f232 a 5 (1, (n + 5)) := by rw [h233]; exact Gq231_5.far (by have := hO.1; omega)
  have Rq234_5 : isR f232 (n + 72) (n + 5) 5 24 := by rw [h233]; exact Rq231_5.put
  obtain ⟨f235, h236, hF⟩ := h_tE hF
  have Oq237 : isO f235 (n + 73) a 1 := by rw [h236]; exact Oq234.new
  have Kq237 : h_K f n a f235 := by rw [h236]; exact Kq234.new (by omega) hO.1
  have Gq237_5 : h_g f235 a 5 (1, (n + 5)) := by rw [h236]; exact Gq234_5.new (by have := hO.1; omega)
  have Rq237_5 : isR f235 (n + 73) (n + 5) 5 24 := by rw [h236]; exact Rq234_5.new
  have F0h236 : isO f235 (n + 73) (n + 72) 4 := by rw [h236]; exact isO.here rfl
  obtain ⟨f238, h239, hF⟩ := h_tE hF
  have Ch239 : h_K f235 (n + 73) (n + 72) f238 := by rw [h239]; exact wX4_init F0h236 rfl
  have Oq240 : isO f238 (n + 75) a 1 := Oq237.call Ch239 (by omega)
  have Kq240 : h_K f n a f238 := Kq237.call Ch239 (by omega) (by omega) hO.1
  have Fq240_72 : isO f238 (n + 75) (n + 72) 4 := F0h236.call Ch239 (by omega)
  have Gq240_5 : h_g f238 a 5 (1, (n + 5)) := Gq237_5.call Ch239 Oq237.1 (by have := hO.1; omega)
  have Rq240_5 : isR f238 (n + 75) (n + 5) 5 24 := Rq237_5.call Ch239 (by omega)
  obtain ⟨f241, h242, hF⟩ := h_tE hF
  have Oq243 : isO f241 (n + 75) a 1 := by rw [h242]; exact Oq240.put
  have Kq243 : h_K f n a f241 := by rw [h242]; exact Kq240.far (by omega) hO.1
  have Fq243_80 : isO f241 (n + 75) (n + 72) 4 := by rw [h242]; exact Fq240_72.put
  have Gq243_5 : h_g f241 a 5 (1, (n + 5)) := by rw [h242]; exact Gq240_5.far (by have := hO.1; omega)
  have Rq243_5 : isR f241 (n + 75) (n + 5) 5 24 := by rw [h242]; exact Rq240_5.put
  obtain ⟨f244, h245, hF⟩ := h_tE hF
  have Oq246 : isO f244 (n + 76) a 1 := by rw [h245]; exact Oq243.new
  have Kq246 : h_K f n a f244 := by rw [h245]; exact Kq243.new (by omega) hO.1
  have Gq246_5 : h_g f244 a 5 (1, (n + 5)) := by rw [h245]; exact Gq243_5.new (by have := hO.1; omega)
  have Rq246_5 : isR f244 (n + 76) (n + 5) 5 24 := by rw [h245]; exact Rq243_5.new
  have F0h245 : isO f244 (n + 76) (n + 75) 4 := by rw [h245]; exact isO.here rfl
  obtain ⟨f247, h248, hF⟩ := h_tE hF
  have Ch248 : h_K f244 (n + 76) (n + 75) f247 := by rw [h248]; exact wX4_init F0h245 rfl
  have Oq249 : isO f247 (n + 78) a 1 := Oq246.call Ch248 (by omega)
  have Kq249 : h_K f n a f247 := Kq246.call Ch248 (by omega) (by omega) hO.1
  have Fq249_75 : isO f247 (n + 78) (n + 75) 4 := F0h245.call Ch248 (by omega)
  have Gq249_5 : h_g f247 a 5 (1, (n + 5)) := Gq246_5.call Ch248 Oq246.1 (by have := hO.1; omega)
  have Rq249_5 : isR f247 (n + 78) (n + 5) 5 24 := Rq246_5.call Ch248 (by omega)
  obtain ⟨f250, h251, hF⟩ := h_tE hF
  have Oq252 : isO f250 (n + 78) a 1 := by rw [h251]; exact Oq249.put
  have Kq252 : h_K f n a f250 := by rw [h251]; exact Kq249.far (by omega) hO.1
  have Fq252_83 : isO f250 (n + 78) (n + 75) 4 := by rw [h251]; exact Fq249_75.put
  have Gq252_5 : h_g f250 a 5 (1, (n + 5)) := by rw [h251]; exact Gq249_5.far (by have := hO.1; omega)
  have Rq252_5 : isR f250 (n + 78) (n + 5) 5 24 := by rw [h251]; exact Rq249_5.put
  subst hF
  exact Kq252
set_option maxRecDepth 100000 in
set_option maxHeartbeats 8000000 in
theorem kX1_init (l : Launch) {y : Ly} {B n a : Nat} {f f1 : FH} (hO : isO f n a 1) (hF : gX1_init n f a = f1) : Met l yX1_init wqX1_init rmX1_init (h_P y B [.ref (B + a)] n f) (h_E y B (n + 78) f1) 78 708 (h_A B) := by
  refine c_met (by decide) rfl rfl rfl (fun x K hQ => ?_)
  unfold gX1_init at hF
  refine c_aload_n (pc := 0) (n := n) (cells := 0) (slots := 0) K dX1_init_0 0 rfl ?_
  refine c_objInit (pc := 1) (n := n) (cells := 0) (slots := 0) K (List.mem_cons_of_mem _ jl_X1_3) (List.mem_cons_of_mem _ jw_i_objectInit) (List.mem_cons_of_mem _ jw_c_objectInit) dX1_init_1 (Nat.le_of_ble_eq_true rfl) (Nat.le_of_ble_eq_true rfl) ?_
  refine c_aload_n (pc := 4) (n := n) (cells := 0) (slots := 0) K dX1_init_4 0 rfl ?_
  refine c_bipush (pc := 5) (n := n) (cells := 0) (slots := 0) (v := 12) K dX1_init_5 rfl ?_
  refine c_newa (pc := 7) (n := n) (cells := 0) (slots := 0) (atype := .int) (ty := .int) K 0 12 rfl rfl rfl (fun _ _ => rfl) (List.mem_cons_of_mem _ jw_y_int) (by decide) (by decide) (Nat.le_of_ble_eq_true rfl) (Nat.le_of_ble_eq_true rfl) (Nat.le_of_ble_eq_true rfl) dX1_init_7 ?_
  refine c_nm hF (fun f1 h2 hF => ?_)
  have Oq3 : isO f1 (n + 1) a 1 := by rw [h2]; exact hO.new
  have Kq3 : h_K f n a f1 := by rw [h2]; exact (h_K.rf (f := f) (n := n) (a := a)).new (by omega) hO.1
  refine c_put (pc := 9) (n := n + 1) (cells := 1) (slots := 12) (C := RX1) (T := TX1) (N := 9) (j := 0) (ty := tyX1 0) K (1, n) hQ.2.2.2.1 Oq3 rfl rfl jn_X1 tyX1 tyX1_ok nmX1 (by decide) (List.mem_cons_of_mem _ jl_X1_9) (Or.inr ⟨rfl, rfl⟩) (tyX1_ok 0 (by decide)) rfl rfl rfl dX1_init_9 ?_
  refine c_nm hF (fun f4 h5 hF => ?_)
  have Oq6 : isO f4 (n + 1) a 1 := by rw [h5]; exact Oq3.put
  have Kq6 : h_K f n a f4 := by rw [h5]; exact Kq3.put
  refine c_aload_n (pc := 12) (n := n + 1) (cells := 1) (slots := 12) K dX1_init_12 0 rfl ?_
  refine c_bipush (pc := 13) (n := n + 1) (cells := 1) (slots := 12) (v := 12) K dX1_init_13 rfl ?_
  refine c_newa (pc := 15) (n := n + 1) (cells := 1) (slots := 12) (atype := .int) (ty := .int) K 0 12 rfl rfl rfl (fun _ _ => rfl) (List.mem_cons_of_mem _ jw_y_int) (by decide) (by decide) (Nat.le_of_ble_eq_true rfl) (Nat.le_of_ble_eq_true rfl) (Nat.le_of_ble_eq_true rfl) dX1_init_15 ?_
  refine c_nm hF (fun f7 h8 hF => ?_)
  have Oq9 : isO f7 (n + 2) a 1 := by rw [h8]; exact Oq6.new
  have Kq9 : h_K f n a f7 := by rw [h8]; exact Kq6.new (by omega) hO.1
  refine c_put (pc := 17) (n := n + 2) (cells := 2) (slots := 24) (C := RX1) (T := TX1) (N := 9) (j := 1) (ty := tyX1 1) K (1, (n + 1)) hQ.2.2.2.1 Oq9 rfl rfl jn_X1 tyX1 tyX1_ok nmX1 (by decide) (List.mem_cons_of_mem _ jl_X1_15) (Or.inr ⟨rfl, rfl⟩) (tyX1_ok 1 (by decide)) rfl rfl rfl dX1_init_17 ?_
  refine c_nm hF (fun f10 h11 hF => ?_)
  have Oq12 : isO f10 (n + 2) a 1 := by rw [h11]; exact Oq9.put
  have Kq12 : h_K f n a f10 := by rw [h11]; exact Kq9.put
  refine c_aload_n (pc := 20) (n := n + 2) (cells := 2) (slots := 24) K dX1_init_20 0 rfl ?_
  refine c_bipush (pc := 21) (n := n + 2) (cells := 2) (slots := 24) (v := 12) K dX1_init_21 rfl ?_
  refine c_newa (pc := 23) (n := n + 2) (cells := 2) (slots := 24) (atype := .int) (ty := .int) K 0 12 rfl rfl rfl (fun _ _ => rfl) (List.mem_cons_of_mem _ jw_y_int) (by decide) (by decide) (Nat.le_of_ble_eq_true rfl) (Nat.le_of_ble_eq_true rfl) (Nat.le_of_ble_eq_true rfl) dX1_init_23 ?_
  refine c_nm hF (fun f13 h14 hF => ?_)
  have Oq15 : isO f13 (n + 3) a 1 := by rw [h14]; exact Oq12.new
  have Kq15 : h_K f n a f13 := by rw [h14]; exact Kq12.new (by omega) hO.1
  refine c_put (pc := 25) (n := n + 3) (cells := 3) (slots := 36) (C := RX1) (T := TX1) (N := 9) (j := 2) (ty := tyX1 2) K (1, (n + 2)) hQ.2.2.2.1 Oq15 rfl rfl jn_X1 tyX1 tyX1_ok nmX1 (by decide) (List.mem_cons_of_mem _ jl_X1_18) (Or.inr ⟨rfl, rfl⟩) (tyX1_ok 2 (by decide)) rfl rfl rfl dX1_init_25 ?_
  refine c_nm hF (fun f16 h17 hF => ?_)
  have Oq18 : isO f16 (n + 3) a 1 := by rw [h17]; exact Oq15.put
  have Kq18 : h_K f n a f16 := by rw [h17]; exact Kq15.put
  refine c_aload_n (pc := 28) (n := n + 3) (cells := 3) (slots := 36) K dX1_init_28 0 rfl ?_
  refine c_bipush (pc := 29) (n := n + 3) (cells := 3) (slots := 36) (v := 12) K dX1_init_29 rfl ?_
  refine c_newa (pc := 31) (n := n + 3) (cells := 3) (slots := 36) (atype := .int) (ty := .int) K 0 12 rfl rfl rfl (fun _ _ => rfl) (List.mem_cons_of_mem _ jw_y_int) (by decide) (by decide) (Nat.le_of_ble_eq_true rfl) (Nat.le_of_ble_eq_true rfl) (Nat.le_of_ble_eq_true rfl) dX1_init_31 ?_
  refine c_nm hF (fun f19 h20 hF => ?_)
  have Oq21 : isO f19 (n + 4) a 1 := by rw [h20]; exact Oq18.new
  have Kq21 : h_K f n a f19 := by rw [h20]; exact Kq18.new (by omega) hO.1
  refine c_put (pc := 33) (n := n + 4) (cells := 4) (slots := 48) (C := RX1) (T := TX1) (N := 9) (j := 3) (ty := tyX1 3) K (1, (n + 3)) hQ.2.2.2.1 Oq21 rfl rfl jn_X1 tyX1 tyX1_ok nmX1 (by decide) (List.mem_cons_of_mem _ jl_X1_21) (Or.inr ⟨rfl, rfl⟩) (tyX1_ok 3 (by decide)) rfl rfl rfl dX1_init_33 ?_
  refine c_nm hF (fun f22 h23 hF => ?_)
  have Oq24 : isO f22 (n + 4) a 1 := by rw [h23]; exact Oq21.put
  have Kq24 : h_K f n a f22 := by rw [h23]; exact Kq21.put
  refine c_aload_n (pc := 36) (n := n + 4) (cells := 4) (slots := 48) K dX1_init_36 0 rfl ?_
  refine c_bipush (pc := 37) (n := n + 4) (cells := 4) (slots := 48) (v := 12) K dX1_init_37 rfl ?_
  refine c_newa (pc := 39) (n := n + 4) (cells := 4) (slots := 48) (atype := .int) (ty := .int) K 0 12 rfl rfl rfl (fun _ _ => rfl) (List.mem_cons_of_mem _ jw_y_int) (by decide) (by decide) (Nat.le_of_ble_eq_true rfl) (Nat.le_of_ble_eq_true rfl) (Nat.le_of_ble_eq_true rfl) dX1_init_39 ?_
  refine c_nm hF (fun f25 h26 hF => ?_)
  have Oq27 : isO f25 (n + 5) a 1 := by rw [h26]; exact Oq24.new
  have Kq27 : h_K f n a f25 := by rw [h26]; exact Kq24.new (by omega) hO.1
  refine c_put (pc := 41) (n := n + 5) (cells := 5) (slots := 60) (C := RX1) (T := TX1) (N := 9) (j := 4) (ty := tyX1 4) K (1, (n + 4)) hQ.2.2.2.1 Oq27 rfl rfl jn_X1 tyX1 tyX1_ok nmX1 (by decide) (List.mem_cons_of_mem _ jl_X1_24) (Or.inr ⟨rfl, rfl⟩) (tyX1_ok 4 (by decide)) rfl rfl rfl dX1_init_41 ?_
  refine c_nm hF (fun f28 h29 hF => ?_)
  have Oq30 : isO f28 (n + 5) a 1 := by rw [h29]; exact Oq27.put
  have Kq30 : h_K f n a f28 := by rw [h29]; exact Kq27.put
  refine c_aload_n (pc := 44) (n := n + 5) (cells := 5) (slots := 60) K dX1_init_44 0 rfl ?_
  refine c_bipush (pc := 45) (n := n + 5) (cells := 5) (slots := 60) (v := 24) K dX1_init_45 rfl ?_
  refine c_anew (pc := 47) (n := n + 5) (cells := 5) (slots := 60) (C := RX4) K 5 24 rfl hQ.2.2.2.2.2.1 (List.mem_cons_of_mem _ jl_X1_27) (by decide) (by decide) (Nat.le_of_ble_eq_true rfl) (Nat.le_of_ble_eq_true rfl) (Nat.le_of_ble_eq_true rfl) dX1_init_47 ?_
  refine c_nm hF (fun f31 h32 hF => ?_)
  have Oq33 : isO f31 (n + 6) a 1 := by rw [h32]; exact Oq30.new
  have Kq33 : h_K f n a f31 := by rw [h32]; exact Kq30.new (by omega) hO.1
  have R0h32 : isR f31 (n + 6) (n + 5) 5 24 := by rw [h32]; exact isR.here (List.length_replicate ..)
  refine c_put (pc := 50) (n := n + 6) (cells := 6) (slots := 84) (C := RX1) (T := TX1) (N := 9) (j := 5) (ty := tyX1 5) K (1, (n + 5)) hQ.2.2.2.1 Oq33 rfl rfl jn_X1 tyX1 tyX1_ok nmX1 (by decide) (List.mem_cons_of_mem _ jl_X1_29) (Or.inr ⟨rfl, rfl⟩) (tyX1_ok 5 (by decide)) rfl rfl rfl dX1_init_50 ?_
  refine c_nm hF (fun f34 h35 hF => ?_)
  have Oq36 : isO f34 (n + 6) a 1 := by rw [h35]; exact Oq33.put
  have Kq36 : h_K f n a f34 := by rw [h35]; exact Kq33.put
  have Rq36_5 : isR f34 (n + 6) (n + 5) 5 24 := by rw [h35]; exact R0h32.put
  have G0h35 : h_g f34 a 5 (1, (n + 5)) := by rw [h35]; exact h_g.here Oq33 (by decide)
  refine c_iconst (pc := 53) (n := n + 6) (cells := 6) (slots := 84) (v := 0) K dX1_init_53 rfl ?_
  refine c_istore_n (pc := 54) (n := n + 6) (cells := 6) (slots := 84) (lv' := [(1, .int 0), (0, .ref (B + a))]) K dX1_init_54 1 rfl (by decide) rfl ?_
  refine c_iload_n (pc := 55) (n := n + 6) (cells := 6) (slots := 84) K dX1_init_55 0 rfl ?_
  refine c_bipush (pc := 56) (n := n + 6) (cells := 6) (slots := 84) (v := 24) K dX1_init_56 rfl ?_
  refine c_geF (pc := 58) (n := n + 6) (cells := 6) (slots := 84) (tgt := 80) K dX1_init_58 (by decide) (by decide) ?_
  refine c_aload_n (pc := 61) (n := n + 6) (cells := 6) (slots := 84) K dX1_init_61 1 rfl ?_
  refine c_get (pc := 62) (n := n + 6) (cells := 6) (slots := 84) (C := RX1) (T := TX1) (N := 9) (j := 5) K Oq36 G0h35 rfl rfl jn_X1 (by decide) (List.mem_cons_of_mem _ jl_X1_29) dX1_init_62 ?_
  refine c_iload_n (pc := 65) (n := n + 6) (cells := 6) (slots := 84) K dX1_init_65 0 rfl ?_
  refine c_new (pc := 66) (n := n + 6) (cells := 6) (slots := 84) (ci := 4) (C := RX4) (T := TX4) (N := 8) K [(2, 0), (2, 0), (0, 0), (0, 0), (0, 0), (0, 0), (0, 0), (0, 0)] rfl rfl jn_X4 tyX4 tyX4_ok (List.mem_cons_of_mem _ jl_X1_27) (List.mem_cons_of_mem _ jw_a_X4) (List.mem_cons_of_mem _ jw_n_X4) df_X4 (Nat.le_of_ble_eq_true rfl) (Nat.le_of_ble_eq_true rfl) dX1_init_66 ?_
  refine c_nm hF (fun f37 h38 hF => ?_)
  have Oq39 : isO f37 (n + 7) a 1 := by rw [h38]; exact Oq36.new
  have Kq39 : h_K f n a f37 := by rw [h38]; exact Kq36.new (by omega) hO.1
  have Gq39_5 : h_g f37 a 5 (1, (n + 5)) := by rw [h38]; exact G0h35.new (by have := hO.1; omega)
  have Rq39_5 : isR f37 (n + 7) (n + 5) 5 24 := by rw [h38]; exact Rq36_5.new
  have F0h38 : isO f37 (n + 7) (n + 6) 4 := by rw [h38]; exact isO.here rfl
  refine c_dup (pc := 69) (n := n + 7) (cells := 7) (slots := 92) K dX1_init_69 rfl ?_
  refine c_callN (pc := 70) (n := n + 7) (cells := 7) (slots := 92) (host := "TwoCards") K (kX4_init l F0h38 rfl) hQ.2.2.2.2 (jg_cons jw_c_X4_init) rfl rfl rfl (List.mem_cons_of_mem _ jw_n_X4) (by decide +kernel) (List.mem_cons_of_mem _ jw_i_X4_init) rfl jd_X4_init ⟨Nat.le_of_ble_eq_true rfl, Nat.le_of_ble_eq_true rfl⟩ (Nat.le_of_ble_eq_true rfl) (Nat.le_of_ble_eq_true rfl) (Nat.le_of_ble_eq_true rfl) dX1_init_70 ?_
  refine c_nm hF (fun f40 h41 hF => ?_)
  have Ch41 : h_K f37 (n + 7) (n + 6) f40 := by rw [h41]; exact wX4_init F0h38 rfl
  have Oq42 : isO f40 (n + 9) a 1 := Oq39.call Ch41 (by omega)
  have Kq42 : h_K f n a f40 := Kq39.call Ch41 (by omega) (by omega) hO.1
  have Fq42_6 : isO f40 (n + 9) (n + 6) 4 := F0h38.call Ch41 (by omega)
  have Gq42_5 : h_g f40 a 5 (1, (n + 5)) := Gq39_5.call Ch41 Oq39.1 (by have := hO.1; omega)
  have Rq42_5 : isR f40 (n + 9) (n + 5) 5 24 := Rq39_5.call Ch41 (by omega)
  refine c_aast (pc := 73) (n := n + 9) (cells := 9) (slots := 110) (C := RX4) (T := TX4) (N := 8) K 0 Rq42_5 Fq42_6 rfl rfl (by decide) (by decide) dX1_init_73 ?_
  refine c_nm hF (fun f43 h44 hF => ?_)
  have Oq45 : isO f43 (n + 9) a 1 := by rw [h44]; exact Oq42.put
  have Kq45 : h_K f n a f43 := by rw [h44]; exact Kq42.far (by omega) hO.1
  have Fq45_13 : isO f43 (n + 9) (n + 6) 4 := by rw [h44]; exact Fq42_6.put
  have Gq45_5 : h_g f43 a 5 (1, (n + 5)) := by rw [h44]; exact Gq42_5.far (by have := hO.1; omega)
  have Rq45_5 : isR f43 (n + 9) (n + 5) 5 24 := by rw [h44]; exact Rq42_5.put
  refine c_iinc (pc := 74) (n := n + 9) (cells := 9) (slots := 110) (v1 := 1) (lv' := [(1, .int 1), (0, .ref (B + a))]) K dX1_init_74 0 rfl (by decide) (by decide) rfl ?_
  refine c_goto (pc := 77) (n := n + 9) (cells := 9) (slots := 110) (tgt := 55) K dX1_init_77 (by decide) ?_
  refine c_iload_n (pc := 55) (n := n + 9) (cells := 9) (slots := 110) K dX1_init_55 0 rfl ?_
  refine c_bipush (pc := 56) (n := n + 9) (cells := 9) (slots := 110) (v := 24) K dX1_init_56 rfl ?_
  refine c_geF (pc := 58) (n := n + 9) (cells := 9) (slots := 110) (tgt := 80) K dX1_init_58 (by decide) (by decide) ?_
  refine c_aload_n (pc := 61) (n := n + 9) (cells := 9) (slots := 110) K dX1_init_61 1 rfl ?_
  refine c_get (pc := 62) (n := n + 9) (cells := 9) (slots := 110) (C := RX1) (T := TX1) (N := 9) (j := 5) K Oq45 Gq45_5 rfl rfl jn_X1 (by decide) (List.mem_cons_of_mem _ jl_X1_29) dX1_init_62 ?_
  refine c_iload_n (pc := 65) (n := n + 9) (cells := 9) (slots := 110) K dX1_init_65 0 rfl ?_
  refine c_new (pc := 66) (n := n + 9) (cells := 9) (slots := 110) (ci := 4) (C := RX4) (T := TX4) (N := 8) K [(2, 0), (2, 0), (0, 0), (0, 0), (0, 0), (0, 0), (0, 0), (0, 0)] rfl rfl jn_X4 tyX4 tyX4_ok (List.mem_cons_of_mem _ jl_X1_27) (List.mem_cons_of_mem _ jw_a_X4) (List.mem_cons_of_mem _ jw_n_X4) df_X4 (Nat.le_of_ble_eq_true rfl) (Nat.le_of_ble_eq_true rfl) dX1_init_66 ?_
  refine c_nm hF (fun f46 h47 hF => ?_)
  have Oq48 : isO f46 (n + 10) a 1 := by rw [h47]; exact Oq45.new
  have Kq48 : h_K f n a f46 := by rw [h47]; exact Kq45.new (by omega) hO.1
  have Gq48_5 : h_g f46 a 5 (1, (n + 5)) := by rw [h47]; exact Gq45_5.new (by have := hO.1; omega)
  have Rq48_5 : isR f46 (n + 10) (n + 5) 5 24 := by rw [h47]; exact Rq45_5.new
  have F0h47 : isO f46 (n + 10) (n + 9) 4 := by rw [h47]; exact isO.here rfl
  refine c_dup (pc := 69) (n := n + 10) (cells := 10) (slots := 118) K dX1_init_69 rfl ?_
  refine c_callN (pc := 70) (n := n + 10) (cells := 10) (slots := 118) (host := "TwoCards") K (kX4_init l F0h47 rfl) hQ.2.2.2.2 (jg_cons jw_c_X4_init) rfl rfl rfl (List.mem_cons_of_mem _ jw_n_X4) (by decide +kernel) (List.mem_cons_of_mem _ jw_i_X4_init) rfl jd_X4_init ⟨Nat.le_of_ble_eq_true rfl, Nat.le_of_ble_eq_true rfl⟩ (Nat.le_of_ble_eq_true rfl) (Nat.le_of_ble_eq_true rfl) (Nat.le_of_ble_eq_true rfl) dX1_init_70 ?_
  refine c_nm hF (fun f49 h50 hF => ?_)
  have Ch50 : h_K f46 (n + 10) (n + 9) f49 := by rw [h50]; exact wX4_init F0h47 rfl
  have Oq51 : isO f49 (n + 12) a 1 := Oq48.call Ch50 (by omega)
  have Kq51 : h_K f n a f49 := Kq48.call Ch50 (by omega) (by omega) hO.1
  have Fq51_9 : isO f49 (n + 12) (n + 9) 4 := F0h47.call Ch50 (by omega)
  have Gq51_5 : h_g f49 a 5 (1, (n + 5)) := Gq48_5.call Ch50 Oq48.1 (by have := hO.1; omega)
  have Rq51_5 : isR f49 (n + 12) (n + 5) 5 24 := Rq48_5.call Ch50 (by omega)
  refine c_aast (pc := 73) (n := n + 12) (cells := 12) (slots := 136) (C := RX4) (T := TX4) (N := 8) K 1 Rq51_5 Fq51_9 rfl rfl (by decide) (by decide) dX1_init_73 ?_
  refine c_nm hF (fun f52 h53 hF => ?_)
  have Oq54 : isO f52 (n + 12) a 1 := by rw [h53]; exact Oq51.put
  have Kq54 : h_K f n a f52 := by rw [h53]; exact Kq51.far (by omega) hO.1
  have Fq54_16 : isO f52 (n + 12) (n + 9) 4 := by rw [h53]; exact Fq51_9.put
  have Gq54_5 : h_g f52 a 5 (1, (n + 5)) := by rw [h53]; exact Gq51_5.far (by have := hO.1; omega)
  have Rq54_5 : isR f52 (n + 12) (n + 5) 5 24 := by rw [h53]; exact Rq51_5.put
  refine c_iinc (pc := 74) (n := n + 12) (cells := 12) (slots := 136) (v1 := 2) (lv' := [(1, .int 2), (0, .ref (B + a))]) K dX1_init_74 0 rfl (by decide) (by decide) rfl ?_
  refine c_goto (pc := 77) (n := n + 12) (cells := 12) (slots := 136) (tgt := 55) K dX1_init_77 (by decide) ?_
  refine c_iload_n (pc := 55) (n := n + 12) (cells := 12) (slots := 136) K dX1_init_55 0 rfl ?_
  refine c_bipush (pc := 56) (n := n + 12) (cells := 12) (slots := 136) (v := 24) K dX1_init_56 rfl ?_
  refine c_geF (pc := 58) (n := n + 12) (cells := 12) (slots := 136) (tgt := 80) K dX1_init_58 (by decide) (by decide) ?_
  refine c_aload_n (pc := 61) (n := n + 12) (cells := 12) (slots := 136) K dX1_init_61 1 rfl ?_
  refine c_get (pc := 62) (n := n + 12) (cells := 12) (slots := 136) (C := RX1) (T := TX1) (N := 9) (j := 5) K Oq54 Gq54_5 rfl rfl jn_X1 (by decide) (List.mem_cons_of_mem _ jl_X1_29) dX1_init_62 ?_
  refine c_iload_n (pc := 65) (n := n + 12) (cells := 12) (slots := 136) K dX1_init_65 0 rfl ?_
  refine c_new (pc := 66) (n := n + 12) (cells := 12) (slots := 136) (ci := 4) (C := RX4) (T := TX4) (N := 8) K [(2, 0), (2, 0), (0, 0), (0, 0), (0, 0), (0, 0), (0, 0), (0, 0)] rfl rfl jn_X4 tyX4 tyX4_ok (List.mem_cons_of_mem _ jl_X1_27) (List.mem_cons_of_mem _ jw_a_X4) (List.mem_cons_of_mem _ jw_n_X4) df_X4 (Nat.le_of_ble_eq_true rfl) (Nat.le_of_ble_eq_true rfl) dX1_init_66 ?_
  refine c_nm hF (fun f55 h56 hF => ?_)
  have Oq57 : isO f55 (n + 13) a 1 := by rw [h56]; exact Oq54.new
  have Kq57 : h_K f n a f55 := by rw [h56]; exact Kq54.new (by omega) hO.1
  have Gq57_5 : h_g f55 a 5 (1, (n + 5)) := by rw [h56]; exact Gq54_5.new (by have := hO.1; omega)
  have Rq57_5 : isR f55 (n + 13) (n + 5) 5 24 := by rw [h56]; exact Rq54_5.new
  have F0h56 : isO f55 (n + 13) (n + 12) 4 := by rw [h56]; exact isO.here rfl
  refine c_dup (pc := 69) (n := n + 13) (cells := 13) (slots := 144) K dX1_init_69 rfl ?_
  refine c_callN (pc := 70) (n := n + 13) (cells := 13) (slots := 144) (host := "TwoCards") K (kX4_init l F0h56 rfl) hQ.2.2.2.2 (jg_cons jw_c_X4_init) rfl rfl rfl (List.mem_cons_of_mem _ jw_n_X4) (by decide +kernel) (List.mem_cons_of_mem _ jw_i_X4_init) rfl jd_X4_init ⟨Nat.le_of_ble_eq_true rfl, Nat.le_of_ble_eq_true rfl⟩ (Nat.le_of_ble_eq_true rfl) (Nat.le_of_ble_eq_true rfl) (Nat.le_of_ble_eq_true rfl) dX1_init_70 ?_
  refine c_nm hF (fun f58 h59 hF => ?_)
  have Ch59 : h_K f55 (n + 13) (n + 12) f58 := by rw [h59]; exact wX4_init F0h56 rfl
  have Oq60 : isO f58 (n + 15) a 1 := Oq57.call Ch59 (by omega)
  have Kq60 : h_K f n a f58 := Kq57.call Ch59 (by omega) (by omega) hO.1
  have Fq60_12 : isO f58 (n + 15) (n + 12) 4 := F0h56.call Ch59 (by omega)
  have Gq60_5 : h_g f58 a 5 (1, (n + 5)) := Gq57_5.call Ch59 Oq57.1 (by have := hO.1; omega)
  have Rq60_5 : isR f58 (n + 15) (n + 5) 5 24 := Rq57_5.call Ch59 (by omega)
  refine c_aast (pc := 73) (n := n + 15) (cells := 15) (slots := 162) (C := RX4) (T := TX4) (N := 8) K 2 Rq60_5 Fq60_12 rfl rfl (by decide) (by decide) dX1_init_73 ?_
  refine c_nm hF (fun f61 h62 hF => ?_)
  have Oq63 : isO f61 (n + 15) a 1 := by rw [h62]; exact Oq60.put
  have Kq63 : h_K f n a f61 := by rw [h62]; exact Kq60.far (by omega) hO.1
  have Fq63_20 : isO f61 (n + 15) (n + 12) 4 := by rw [h62]; exact Fq60_12.put
  have Gq63_5 : h_g f61 a 5 (1, (n + 5)) := by rw [h62]; exact Gq60_5.far (by have := hO.1; omega)
  have Rq63_5 : isR f61 (n + 15) (n + 5) 5 24 := by rw [h62]; exact Rq60_5.put
  refine c_iinc (pc := 74) (n := n + 15) (cells := 15) (slots := 162) (v1 := 3) (lv' := [(1, .int 3), (0, .ref (B + a))]) K dX1_init_74 0 rfl (by decide) (by decide) rfl ?_
  refine c_goto (pc := 77) (n := n + 15) (cells := 15) (slots := 162) (tgt := 55) K dX1_init_77 (by decide) ?_
  refine c_iload_n (pc := 55) (n := n + 15) (cells := 15) (slots := 162) K dX1_init_55 0 rfl ?_
  refine c_bipush (pc := 56) (n := n + 15) (cells := 15) (slots := 162) (v := 24) K dX1_init_56 rfl ?_
  refine c_geF (pc := 58) (n := n + 15) (cells := 15) (slots := 162) (tgt := 80) K dX1_init_58 (by decide) (by decide) ?_
  refine c_aload_n (pc := 61) (n := n + 15) (cells := 15) (slots := 162) K dX1_init_61 1 rfl ?_
  refine c_get (pc := 62) (n := n + 15) (cells := 15) (slots := 162) (C := RX1) (T := TX1) (N := 9) (j := 5) K Oq63 Gq63_5 rfl rfl jn_X1 (by decide) (List.mem_cons_of_mem _ jl_X1_29) dX1_init_62 ?_
  refine c_iload_n (pc := 65) (n := n + 15) (cells := 15) (slots := 162) K dX1_init_65 0 rfl ?_
  refine c_new (pc := 66) (n := n + 15) (cells := 15) (slots := 162) (ci := 4) (C := RX4) (T := TX4) (N := 8) K [(2, 0), (2, 0), (0, 0), (0, 0), (0, 0), (0, 0), (0, 0), (0, 0)] rfl rfl jn_X4 tyX4 tyX4_ok (List.mem_cons_of_mem _ jl_X1_27) (List.mem_cons_of_mem _ jw_a_X4) (List.mem_cons_of_mem _ jw_n_X4) df_X4 (Nat.le_of_ble_eq_true rfl) (Nat.le_of_ble_eq_true rfl) dX1_init_66 ?_
  refine c_nm hF (fun f64 h65 hF => ?_)
  have Oq66 : isO f64 (n + 16) a 1 := by rw [h65]; exact Oq63.new
  have Kq66 : h_K f n a f64 := by rw [h65]; exact Kq63.new (by omega) hO.1
  have Gq66_5 : h_g f64 a 5 (1, (n + 5)) := by rw [h65]; exact Gq63_5.new (by have := hO.1; omega)
  have Rq66_5 : isR f64 (n + 16) (n + 5) 5 24 := by rw [h65]; exact Rq63_5.new
  have F0h65 : isO f64 (n + 16) (n + 15) 4 := by rw [h65]; exact isO.here rfl
  refine c_dup (pc := 69) (n := n + 16) (cells := 16) (slots := 170) K dX1_init_69 rfl ?_
  refine c_callN (pc := 70) (n := n + 16) (cells := 16) (slots := 170) (host := "TwoCards") K (kX4_init l F0h65 rfl) hQ.2.2.2.2 (jg_cons jw_c_X4_init) rfl rfl rfl (List.mem_cons_of_mem _ jw_n_X4) (by decide +kernel) (List.mem_cons_of_mem _ jw_i_X4_init) rfl jd_X4_init ⟨Nat.le_of_ble_eq_true rfl, Nat.le_of_ble_eq_true rfl⟩ (Nat.le_of_ble_eq_true rfl) (Nat.le_of_ble_eq_true rfl) (Nat.le_of_ble_eq_true rfl) dX1_init_70 ?_
  refine c_nm hF (fun f67 h68 hF => ?_)
  have Ch68 : h_K f64 (n + 16) (n + 15) f67 := by rw [h68]; exact wX4_init F0h65 rfl
  have Oq69 : isO f67 (n + 18) a 1 := Oq66.call Ch68 (by omega)
  have Kq69 : h_K f n a f67 := Kq66.call Ch68 (by omega) (by omega) hO.1
  have Fq69_15 : isO f67 (n + 18) (n + 15) 4 := F0h65.call Ch68 (by omega)
  have Gq69_5 : h_g f67 a 5 (1, (n + 5)) := Gq66_5.call Ch68 Oq66.1 (by have := hO.1; omega)
  have Rq69_5 : isR f67 (n + 18) (n + 5) 5 24 := Rq66_5.call Ch68 (by omega)
  refine c_aast (pc := 73) (n := n + 18) (cells := 18) (slots := 188) (C := RX4) (T := TX4) (N := 8) K 3 Rq69_5 Fq69_15 rfl rfl (by decide) (by decide) dX1_init_73 ?_
  refine c_nm hF (fun f70 h71 hF => ?_)
  have Oq72 : isO f70 (n + 18) a 1 := by rw [h71]; exact Oq69.put
  have Kq72 : h_K f n a f70 := by rw [h71]; exact Kq69.far (by omega) hO.1
  have Fq72_23 : isO f70 (n + 18) (n + 15) 4 := by rw [h71]; exact Fq69_15.put
  have Gq72_5 : h_g f70 a 5 (1, (n + 5)) := by rw [h71]; exact Gq69_5.far (by have := hO.1; omega)
  have Rq72_5 : isR f70 (n + 18) (n + 5) 5 24 := by rw [h71]; exact Rq69_5.put
  refine c_iinc (pc := 74) (n := n + 18) (cells := 18) (slots := 188) (v1 := 4) (lv' := [(1, .int 4), (0, .ref (B + a))]) K dX1_init_74 0 rfl (by decide) (by decide) rfl ?_
  refine c_goto (pc := 77) (n := n + 18) (cells := 18) (slots := 188) (tgt := 55) K dX1_init_77 (by decide) ?_
  refine c_iload_n (pc := 55) (n := n + 18) (cells := 18) (slots := 188) K dX1_init_55 0 rfl ?_
  refine c_bipush (pc := 56) (n := n + 18) (cells := 18) (slots := 188) (v := 24) K dX1_init_56 rfl ?_
  refine c_geF (pc := 58) (n := n + 18) (cells := 18) (slots := 188) (tgt := 80) K dX1_init_58 (by decide) (by decide) ?_
  refine c_aload_n (pc := 61) (n := n + 18) (cells := 18) (slots := 188) K dX1_init_61 1 rfl ?_
  refine c_get (pc := 62) (n := n + 18) (cells := 18) (slots := 188) (C := RX1) (T := TX1) (N := 9) (j := 5) K Oq72 Gq72_5 rfl rfl jn_X1 (by decide) (List.mem_cons_of_mem _ jl_X1_29) dX1_init_62 ?_
  refine c_iload_n (pc := 65) (n := n + 18) (cells := 18) (slots := 188) K dX1_init_65 0 rfl ?_
  refine c_new (pc := 66) (n := n + 18) (cells := 18) (slots := 188) (ci := 4) (C := RX4) (T := TX4) (N := 8) K [(2, 0), (2, 0), (0, 0), (0, 0), (0, 0), (0, 0), (0, 0), (0, 0)] rfl rfl jn_X4 tyX4 tyX4_ok (List.mem_cons_of_mem _ jl_X1_27) (List.mem_cons_of_mem _ jw_a_X4) (List.mem_cons_of_mem _ jw_n_X4) df_X4 (Nat.le_of_ble_eq_true rfl) (Nat.le_of_ble_eq_true rfl) dX1_init_66 ?_
  refine c_nm hF (fun f73 h74 hF => ?_)
  have Oq75 : isO f73 (n + 19) a 1 := by rw [h74]; exact Oq72.new
  have Kq75 : h_K f n a f73 := by rw [h74]; exact Kq72.new (by omega) hO.1
  have Gq75_5 : h_g f73 a 5 (1, (n + 5)) := by rw [h74]; exact Gq72_5.new (by have := hO.1; omega)
  have Rq75_5 : isR f73 (n + 19) (n + 5) 5 24 := by rw [h74]; exact Rq72_5.new
  have F0h74 : isO f73 (n + 19) (n + 18) 4 := by rw [h74]; exact isO.here rfl
  refine c_dup (pc := 69) (n := n + 19) (cells := 19) (slots := 196) K dX1_init_69 rfl ?_
  refine c_callN (pc := 70) (n := n + 19) (cells := 19) (slots := 196) (host := "TwoCards") K (kX4_init l F0h74 rfl) hQ.2.2.2.2 (jg_cons jw_c_X4_init) rfl rfl rfl (List.mem_cons_of_mem _ jw_n_X4) (by decide +kernel) (List.mem_cons_of_mem _ jw_i_X4_init) rfl jd_X4_init ⟨Nat.le_of_ble_eq_true rfl, Nat.le_of_ble_eq_true rfl⟩ (Nat.le_of_ble_eq_true rfl) (Nat.le_of_ble_eq_true rfl) (Nat.le_of_ble_eq_true rfl) dX1_init_70 ?_
  refine c_nm hF (fun f76 h77 hF => ?_)
  have Ch77 : h_K f73 (n + 19) (n + 18) f76 := by rw [h77]; exact wX4_init F0h74 rfl
  have Oq78 : isO f76 (n + 21) a 1 := Oq75.call Ch77 (by omega)
  have Kq78 : h_K f n a f76 := Kq75.call Ch77 (by omega) (by omega) hO.1
  have Fq78_18 : isO f76 (n + 21) (n + 18) 4 := F0h74.call Ch77 (by omega)
  have Gq78_5 : h_g f76 a 5 (1, (n + 5)) := Gq75_5.call Ch77 Oq75.1 (by have := hO.1; omega)
  have Rq78_5 : isR f76 (n + 21) (n + 5) 5 24 := Rq75_5.call Ch77 (by omega)
  refine c_aast (pc := 73) (n := n + 21) (cells := 21) (slots := 214) (C := RX4) (T := TX4) (N := 8) K 4 Rq78_5 Fq78_18 rfl rfl (by decide) (by decide) dX1_init_73 ?_
  refine c_nm hF (fun f79 h80 hF => ?_)
  have Oq81 : isO f79 (n + 21) a 1 := by rw [h80]; exact Oq78.put
  have Kq81 : h_K f n a f79 := by rw [h80]; exact Kq78.far (by omega) hO.1
  have Fq81_26 : isO f79 (n + 21) (n + 18) 4 := by rw [h80]; exact Fq78_18.put
  have Gq81_5 : h_g f79 a 5 (1, (n + 5)) := by rw [h80]; exact Gq78_5.far (by have := hO.1; omega)
  have Rq81_5 : isR f79 (n + 21) (n + 5) 5 24 := by rw [h80]; exact Rq78_5.put
  refine c_iinc (pc := 74) (n := n + 21) (cells := 21) (slots := 214) (v1 := 5) (lv' := [(1, .int 5), (0, .ref (B + a))]) K dX1_init_74 0 rfl (by decide) (by decide) rfl ?_
  refine c_goto (pc := 77) (n := n + 21) (cells := 21) (slots := 214) (tgt := 55) K dX1_init_77 (by decide) ?_
  refine c_iload_n (pc := 55) (n := n + 21) (cells := 21) (slots := 214) K dX1_init_55 0 rfl ?_
  refine c_bipush (pc := 56) (n := n + 21) (cells := 21) (slots := 214) (v := 24) K dX1_init_56 rfl ?_
  refine c_geF (pc := 58) (n := n + 21) (cells := 21) (slots := 214) (tgt := 80) K dX1_init_58 (by decide) (by decide) ?_
  refine c_aload_n (pc := 61) (n := n + 21) (cells := 21) (slots := 214) K dX1_init_61 1 rfl ?_
  refine c_get (pc := 62) (n := n + 21) (cells := 21) (slots := 214) (C := RX1) (T := TX1) (N := 9) (j := 5) K Oq81 Gq81_5 rfl rfl jn_X1 (by decide) (List.mem_cons_of_mem _ jl_X1_29) dX1_init_62 ?_
  refine c_iload_n (pc := 65) (n := n + 21) (cells := 21) (slots := 214) K dX1_init_65 0 rfl ?_
  refine c_new (pc := 66) (n := n + 21) (cells := 21) (slots := 214) (ci := 4) (C := RX4) (T := TX4) (N := 8) K [(2, 0), (2, 0), (0, 0), (0, 0), (0, 0), (0, 0), (0, 0), (0, 0)] rfl rfl jn_X4 tyX4 tyX4_ok (List.mem_cons_of_mem _ jl_X1_27) (List.mem_cons_of_mem _ jw_a_X4) (List.mem_cons_of_mem _ jw_n_X4) df_X4 (Nat.le_of_ble_eq_true rfl) (Nat.le_of_ble_eq_true rfl) dX1_init_66 ?_
  refine c_nm hF (fun f82 h83 hF => ?_)
  have Oq84 : isO f82 (n + 22) a 1 := by rw [h83]; exact Oq81.new
  have Kq84 : h_K f n a f82 := by rw [h83]; exact Kq81.new (by omega) hO.1
  have Gq84_5 : h_g f82 a 5 (1, (n + 5)) := by rw [h83]; exact Gq81_5.new (by have := hO.1; omega)
  have Rq84_5 : isR f82 (n + 22) (n + 5) 5 24 := by rw [h83]; exact Rq81_5.new
  have F0h83 : isO f82 (n + 22) (n + 21) 4 := by rw [h83]; exact isO.here rfl
  refine c_dup (pc := 69) (n := n + 22) (cells := 22) (slots := 222) K dX1_init_69 rfl ?_
  refine c_callN (pc := 70) (n := n + 22) (cells := 22) (slots := 222) (host := "TwoCards") K (kX4_init l F0h83 rfl) hQ.2.2.2.2 (jg_cons jw_c_X4_init) rfl rfl rfl (List.mem_cons_of_mem _ jw_n_X4) (by decide +kernel) (List.mem_cons_of_mem _ jw_i_X4_init) rfl jd_X4_init ⟨Nat.le_of_ble_eq_true rfl, Nat.le_of_ble_eq_true rfl⟩ (Nat.le_of_ble_eq_true rfl) (Nat.le_of_ble_eq_true rfl) (Nat.le_of_ble_eq_true rfl) dX1_init_70 ?_
  refine c_nm hF (fun f85 h86 hF => ?_)
  have Ch86 : h_K f82 (n + 22) (n + 21) f85 := by rw [h86]; exact wX4_init F0h83 rfl
  have Oq87 : isO f85 (n + 24) a 1 := Oq84.call Ch86 (by omega)
  have Kq87 : h_K f n a f85 := Kq84.call Ch86 (by omega) (by omega) hO.1
  have Fq87_21 : isO f85 (n + 24) (n + 21) 4 := F0h83.call Ch86 (by omega)
  have Gq87_5 : h_g f85 a 5 (1, (n + 5)) := Gq84_5.call Ch86 Oq84.1 (by have := hO.1; omega)
  have Rq87_5 : isR f85 (n + 24) (n + 5) 5 24 := Rq84_5.call Ch86 (by omega)
  refine c_aast (pc := 73) (n := n + 24) (cells := 24) (slots := 240) (C := RX4) (T := TX4) (N := 8) K 5 Rq87_5 Fq87_21 rfl rfl (by decide) (by decide) dX1_init_73 ?_
  refine c_nm hF (fun f88 h89 hF => ?_)
  have Oq90 : isO f88 (n + 24) a 1 := by rw [h89]; exact Oq87.put
  have Kq90 : h_K f n a f88 := by rw [h89]; exact Kq87.far (by omega) hO.1
  have Fq90_29 : isO f88 (n + 24) (n + 21) 4 := by rw [h89]; exact Fq87_21.put
  have Gq90_5 : h_g f88 a 5 (1, (n + 5)) := by rw [h89]; exact Gq87_5.far (by have := hO.1; omega)
  have Rq90_5 : isR f88 (n + 24) (n + 5) 5 24 := by rw [h89]; exact Rq87_5.put
  refine c_iinc (pc := 74) (n := n + 24) (cells := 24) (slots := 240) (v1 := 6) (lv' := [(1, .int 6), (0, .ref (B + a))]) K dX1_init_74 0 rfl (by decide) (by decide) rfl ?_
  refine c_goto (pc := 77) (n := n + 24) (cells := 24) (slots := 240) (tgt := 55) K dX1_init_77 (by decide) ?_
  refine c_iload_n (pc := 55) (n := n + 24) (cells := 24) (slots := 240) K dX1_init_55 0 rfl ?_
  refine c_bipush (pc := 56) (n := n + 24) (cells := 24) (slots := 240) (v := 24) K dX1_init_56 rfl ?_
  refine c_geF (pc := 58) (n := n + 24) (cells := 24) (slots := 240) (tgt := 80) K dX1_init_58 (by decide) (by decide) ?_
  refine c_aload_n (pc := 61) (n := n + 24) (cells := 24) (slots := 240) K dX1_init_61 1 rfl ?_
  refine c_get (pc := 62) (n := n + 24) (cells := 24) (slots := 240) (C := RX1) (T := TX1) (N := 9) (j := 5) K Oq90 Gq90_5 rfl rfl jn_X1 (by decide) (List.mem_cons_of_mem _ jl_X1_29) dX1_init_62 ?_
  refine c_iload_n (pc := 65) (n := n + 24) (cells := 24) (slots := 240) K dX1_init_65 0 rfl ?_
  refine c_new (pc := 66) (n := n + 24) (cells := 24) (slots := 240) (ci := 4) (C := RX4) (T := TX4) (N := 8) K [(2, 0), (2, 0), (0, 0), (0, 0), (0, 0), (0, 0), (0, 0), (0, 0)] rfl rfl jn_X4 tyX4 tyX4_ok (List.mem_cons_of_mem _ jl_X1_27) (List.mem_cons_of_mem _ jw_a_X4) (List.mem_cons_of_mem _ jw_n_X4) df_X4 (Nat.le_of_ble_eq_true rfl) (Nat.le_of_ble_eq_true rfl) dX1_init_66 ?_
  refine c_nm hF (fun f91 h92 hF => ?_)
  have Oq93 : isO f91 (n + 25) a 1 := by rw [h92]; exact Oq90.new
  have Kq93 : h_K f n a f91 := by rw [h92]; exact Kq90.new (by omega) hO.1
  have Gq93_5 : h_g f91 a 5 (1, (n + 5)) := by rw [h92]; exact Gq90_5.new (by have := hO.1; omega)
  have Rq93_5 : isR f91 (n + 25) (n + 5) 5 24 := by rw [h92]; exact Rq90_5.new
  have F0h92 : isO f91 (n + 25) (n + 24) 4 := by rw [h92]; exact isO.here rfl
  refine c_dup (pc := 69) (n := n + 25) (cells := 25) (slots := 248) K dX1_init_69 rfl ?_
  refine c_callN (pc := 70) (n := n + 25) (cells := 25) (slots := 248) (host := "TwoCards") K (kX4_init l F0h92 rfl) hQ.2.2.2.2 (jg_cons jw_c_X4_init) rfl rfl rfl (List.mem_cons_of_mem _ jw_n_X4) (by decide +kernel) (List.mem_cons_of_mem _ jw_i_X4_init) rfl jd_X4_init ⟨Nat.le_of_ble_eq_true rfl, Nat.le_of_ble_eq_true rfl⟩ (Nat.le_of_ble_eq_true rfl) (Nat.le_of_ble_eq_true rfl) (Nat.le_of_ble_eq_true rfl) dX1_init_70 ?_
  refine c_nm hF (fun f94 h95 hF => ?_)
  have Ch95 : h_K f91 (n + 25) (n + 24) f94 := by rw [h95]; exact wX4_init F0h92 rfl
  have Oq96 : isO f94 (n + 27) a 1 := Oq93.call Ch95 (by omega)
  have Kq96 : h_K f n a f94 := Kq93.call Ch95 (by omega) (by omega) hO.1
  have Fq96_24 : isO f94 (n + 27) (n + 24) 4 := F0h92.call Ch95 (by omega)
  have Gq96_5 : h_g f94 a 5 (1, (n + 5)) := Gq93_5.call Ch95 Oq93.1 (by have := hO.1; omega)
  have Rq96_5 : isR f94 (n + 27) (n + 5) 5 24 := Rq93_5.call Ch95 (by omega)
  refine c_aast (pc := 73) (n := n + 27) (cells := 27) (slots := 266) (C := RX4) (T := TX4) (N := 8) K 6 Rq96_5 Fq96_24 rfl rfl (by decide) (by decide) dX1_init_73 ?_
  refine c_nm hF (fun f97 h98 hF => ?_)
  have Oq99 : isO f97 (n + 27) a 1 := by rw [h98]; exact Oq96.put
  have Kq99 : h_K f n a f97 := by rw [h98]; exact Kq96.far (by omega) hO.1
  have Fq99_32 : isO f97 (n + 27) (n + 24) 4 := by rw [h98]; exact Fq96_24.put
  have Gq99_5 : h_g f97 a 5 (1, (n + 5)) := by rw [h98]; exact Gq96_5.far (by have := hO.1; omega)
  have Rq99_5 : isR f97 (n + 27) (n + 5) 5 24 := by rw [h98]; exact Rq96_5.put
  refine c_iinc (pc := 74) (n := n + 27) (cells := 27) (slots := 266) (v1 := 7) (lv' := [(1, .int 7), (0, .ref (B + a))]) K dX1_init_74 0 rfl (by decide) (by decide) rfl ?_
  refine c_goto (pc := 77) (n := n + 27) (cells := 27) (slots := 266) (tgt := 55) K dX1_init_77 (by decide) ?_
  refine c_iload_n (pc := 55) (n := n + 27) (cells := 27) (slots := 266) K dX1_init_55 0 rfl ?_
  refine c_bipush (pc := 56) (n := n + 27) (cells := 27) (slots := 266) (v := 24) K dX1_init_56 rfl ?_
  refine c_geF (pc := 58) (n := n + 27) (cells := 27) (slots := 266) (tgt := 80) K dX1_init_58 (by decide) (by decide) ?_
  refine c_aload_n (pc := 61) (n := n + 27) (cells := 27) (slots := 266) K dX1_init_61 1 rfl ?_
  refine c_get (pc := 62) (n := n + 27) (cells := 27) (slots := 266) (C := RX1) (T := TX1) (N := 9) (j := 5) K Oq99 Gq99_5 rfl rfl jn_X1 (by decide) (List.mem_cons_of_mem _ jl_X1_29) dX1_init_62 ?_
  refine c_iload_n (pc := 65) (n := n + 27) (cells := 27) (slots := 266) K dX1_init_65 0 rfl ?_
  refine c_new (pc := 66) (n := n + 27) (cells := 27) (slots := 266) (ci := 4) (C := RX4) (T := TX4) (N := 8) K [(2, 0), (2, 0), (0, 0), (0, 0), (0, 0), (0, 0), (0, 0), (0, 0)] rfl rfl jn_X4 tyX4 tyX4_ok (List.mem_cons_of_mem _ jl_X1_27) (List.mem_cons_of_mem _ jw_a_X4) (List.mem_cons_of_mem _ jw_n_X4) df_X4 (Nat.le_of_ble_eq_true rfl) (Nat.le_of_ble_eq_true rfl) dX1_init_66 ?_
  refine c_nm hF (fun f100 h101 hF => ?_)
  have Oq102 : isO f100 (n + 28) a 1 := by rw [h101]; exact Oq99.new
  have Kq102 : h_K f n a f100 := by rw [h101]; exact Kq99.new (by omega) hO.1
  have Gq102_5 : h_g f100 a 5 (1, (n + 5)) := by rw [h101]; exact Gq99_5.new (by have := hO.1; omega)
  have Rq102_5 : isR f100 (n + 28) (n + 5) 5 24 := by rw [h101]; exact Rq99_5.new
  have F0h101 : isO f100 (n + 28) (n + 27) 4 := by rw [h101]; exact isO.here rfl
  refine c_dup (pc := 69) (n := n + 28) (cells := 28) (slots := 274) K dX1_init_69 rfl ?_
  refine c_callN (pc := 70) (n := n + 28) (cells := 28) (slots := 274) (host := "TwoCards") K (kX4_init l F0h101 rfl) hQ.2.2.2.2 (jg_cons jw_c_X4_init) rfl rfl rfl (List.mem_cons_of_mem _ jw_n_X4) (by decide +kernel) (List.mem_cons_of_mem _ jw_i_X4_init) rfl jd_X4_init ⟨Nat.le_of_ble_eq_true rfl, Nat.le_of_ble_eq_true rfl⟩ (Nat.le_of_ble_eq_true rfl) (Nat.le_of_ble_eq_true rfl) (Nat.le_of_ble_eq_true rfl) dX1_init_70 ?_
  refine c_nm hF (fun f103 h104 hF => ?_)
  have Ch104 : h_K f100 (n + 28) (n + 27) f103 := by rw [h104]; exact wX4_init F0h101 rfl
  have Oq105 : isO f103 (n + 30) a 1 := Oq102.call Ch104 (by omega)
  have Kq105 : h_K f n a f103 := Kq102.call Ch104 (by omega) (by omega) hO.1
  have Fq105_27 : isO f103 (n + 30) (n + 27) 4 := F0h101.call Ch104 (by omega)
  have Gq105_5 : h_g f103 a 5 (1, (n + 5)) := Gq102_5.call Ch104 Oq102.1 (by have := hO.1; omega)
  have Rq105_5 : isR f103 (n + 30) (n + 5) 5 24 := Rq102_5.call Ch104 (by omega)
  refine c_aast (pc := 73) (n := n + 30) (cells := 30) (slots := 292) (C := RX4) (T := TX4) (N := 8) K 7 Rq105_5 Fq105_27 rfl rfl (by decide) (by decide) dX1_init_73 ?_
  refine c_nm hF (fun f106 h107 hF => ?_)
  have Oq108 : isO f106 (n + 30) a 1 := by rw [h107]; exact Oq105.put
  have Kq108 : h_K f n a f106 := by rw [h107]; exact Kq105.far (by omega) hO.1
  have Fq108_35 : isO f106 (n + 30) (n + 27) 4 := by rw [h107]; exact Fq105_27.put
  have Gq108_5 : h_g f106 a 5 (1, (n + 5)) := by rw [h107]; exact Gq105_5.far (by have := hO.1; omega)
  have Rq108_5 : isR f106 (n + 30) (n + 5) 5 24 := by rw [h107]; exact Rq105_5.put
  refine c_iinc (pc := 74) (n := n + 30) (cells := 30) (slots := 292) (v1 := 8) (lv' := [(1, .int 8), (0, .ref (B + a))]) K dX1_init_74 0 rfl (by decide) (by decide) rfl ?_
  refine c_goto (pc := 77) (n := n + 30) (cells := 30) (slots := 292) (tgt := 55) K dX1_init_77 (by decide) ?_
  refine c_iload_n (pc := 55) (n := n + 30) (cells := 30) (slots := 292) K dX1_init_55 0 rfl ?_
  refine c_bipush (pc := 56) (n := n + 30) (cells := 30) (slots := 292) (v := 24) K dX1_init_56 rfl ?_
  refine c_geF (pc := 58) (n := n + 30) (cells := 30) (slots := 292) (tgt := 80) K dX1_init_58 (by decide) (by decide) ?_
  refine c_aload_n (pc := 61) (n := n + 30) (cells := 30) (slots := 292) K dX1_init_61 1 rfl ?_
  refine c_get (pc := 62) (n := n + 30) (cells := 30) (slots := 292) (C := RX1) (T := TX1) (N := 9) (j := 5) K Oq108 Gq108_5 rfl rfl jn_X1 (by decide) (List.mem_cons_of_mem _ jl_X1_29) dX1_init_62 ?_
  refine c_iload_n (pc := 65) (n := n + 30) (cells := 30) (slots := 292) K dX1_init_65 0 rfl ?_
  refine c_new (pc := 66) (n := n + 30) (cells := 30) (slots := 292) (ci := 4) (C := RX4) (T := TX4) (N := 8) K [(2, 0), (2, 0), (0, 0), (0, 0), (0, 0), (0, 0), (0, 0), (0, 0)] rfl rfl jn_X4 tyX4 tyX4_ok (List.mem_cons_of_mem _ jl_X1_27) (List.mem_cons_of_mem _ jw_a_X4) (List.mem_cons_of_mem _ jw_n_X4) df_X4 (Nat.le_of_ble_eq_true rfl) (Nat.le_of_ble_eq_true rfl) dX1_init_66 ?_
  refine c_nm hF (fun f109 h110 hF => ?_)
  have Oq111 : isO f109 (n + 31) a 1 := by rw [h110]; exact Oq108.new
  have Kq111 : h_K f n a f109 := by rw [h110]; exact Kq108.new (by omega) hO.1
  have Gq111_5 : h_g f109 a 5 (1, (n + 5)) := by rw [h110]; exact Gq108_5.new (by have := hO.1; omega)
  have Rq111_5 : isR f109 (n + 31) (n + 5) 5 24 := by rw [h110]; exact Rq108_5.new
  have F0h110 : isO f109 (n + 31) (n + 30) 4 := by rw [h110]; exact isO.here rfl
  refine c_dup (pc := 69) (n := n + 31) (cells := 31) (slots := 300) K dX1_init_69 rfl ?_
  refine c_callN (pc := 70) (n := n + 31) (cells := 31) (slots := 300) (host := "TwoCards") K (kX4_init l F0h110 rfl) hQ.2.2.2.2 (jg_cons jw_c_X4_init) rfl rfl rfl (List.mem_cons_of_mem _ jw_n_X4) (by decide +kernel) (List.mem_cons_of_mem _ jw_i_X4_init) rfl jd_X4_init ⟨Nat.le_of_ble_eq_true rfl, Nat.le_of_ble_eq_true rfl⟩ (Nat.le_of_ble_eq_true rfl) (Nat.le_of_ble_eq_true rfl) (Nat.le_of_ble_eq_true rfl) dX1_init_70 ?_
  refine c_nm hF (fun f112 h113 hF => ?_)
  have Ch113 : h_K f109 (n + 31) (n + 30) f112 := by rw [h113]; exact wX4_init F0h110 rfl
  have Oq114 : isO f112 (n + 33) a 1 := Oq111.call Ch113 (by omega)
  have Kq114 : h_K f n a f112 := Kq111.call Ch113 (by omega) (by omega) hO.1
  have Fq114_30 : isO f112 (n + 33) (n + 30) 4 := F0h110.call Ch113 (by omega)
  have Gq114_5 : h_g f112 a 5 (1, (n + 5)) := Gq111_5.call Ch113 Oq111.1 (by have := hO.1; omega)
  have Rq114_5 : isR f112 (n + 33) (n + 5) 5 24 := Rq111_5.call Ch113 (by omega)
  refine c_aast (pc := 73) (n := n + 33) (cells := 33) (slots := 318) (C := RX4) (T := TX4) (N := 8) K 8 Rq114_5 Fq114_30 rfl rfl (by decide) (by decide) dX1_init_73 ?_
  refine c_nm hF (fun f115 h116 hF => ?_)
  have Oq117 : isO f115 (n + 33) a 1 := by rw [h116]; exact Oq114.put
  have Kq117 : h_K f n a f115 := by rw [h116]; exact Kq114.far (by omega) hO.1
  have Fq117_38 : isO f115 (n + 33) (n + 30) 4 := by rw [h116]; exact Fq114_30.put
  have Gq117_5 : h_g f115 a 5 (1, (n + 5)) := by rw [h116]; exact Gq114_5.far (by have := hO.1; omega)
  have Rq117_5 : isR f115 (n + 33) (n + 5) 5 24 := by rw [h116]; exact Rq114_5.put
  refine c_iinc (pc := 74) (n := n + 33) (cells := 33) (slots := 318) (v1 := 9) (lv' := [(1, .int 9), (0, .ref (B + a))]) K dX1_init_74 0 rfl (by decide) (by decide) rfl ?_
  refine c_goto (pc := 77) (n := n + 33) (cells := 33) (slots := 318) (tgt := 55) K dX1_init_77 (by decide) ?_
  refine c_iload_n (pc := 55) (n := n + 33) (cells := 33) (slots := 318) K dX1_init_55 0 rfl ?_
  refine c_bipush (pc := 56) (n := n + 33) (cells := 33) (slots := 318) (v := 24) K dX1_init_56 rfl ?_
  refine c_geF (pc := 58) (n := n + 33) (cells := 33) (slots := 318) (tgt := 80) K dX1_init_58 (by decide) (by decide) ?_
  refine c_aload_n (pc := 61) (n := n + 33) (cells := 33) (slots := 318) K dX1_init_61 1 rfl ?_
  refine c_get (pc := 62) (n := n + 33) (cells := 33) (slots := 318) (C := RX1) (T := TX1) (N := 9) (j := 5) K Oq117 Gq117_5 rfl rfl jn_X1 (by decide) (List.mem_cons_of_mem _ jl_X1_29) dX1_init_62 ?_
  refine c_iload_n (pc := 65) (n := n + 33) (cells := 33) (slots := 318) K dX1_init_65 0 rfl ?_
  refine c_new (pc := 66) (n := n + 33) (cells := 33) (slots := 318) (ci := 4) (C := RX4) (T := TX4) (N := 8) K [(2, 0), (2, 0), (0, 0), (0, 0), (0, 0), (0, 0), (0, 0), (0, 0)] rfl rfl jn_X4 tyX4 tyX4_ok (List.mem_cons_of_mem _ jl_X1_27) (List.mem_cons_of_mem _ jw_a_X4) (List.mem_cons_of_mem _ jw_n_X4) df_X4 (Nat.le_of_ble_eq_true rfl) (Nat.le_of_ble_eq_true rfl) dX1_init_66 ?_
  refine c_nm hF (fun f118 h119 hF => ?_)
  have Oq120 : isO f118 (n + 34) a 1 := by rw [h119]; exact Oq117.new
  have Kq120 : h_K f n a f118 := by rw [h119]; exact Kq117.new (by omega) hO.1
  have Gq120_5 : h_g f118 a 5 (1, (n + 5)) := by rw [h119]; exact Gq117_5.new (by have := hO.1; omega)
  have Rq120_5 : isR f118 (n + 34) (n + 5) 5 24 := by rw [h119]; exact Rq117_5.new
  have F0h119 : isO f118 (n + 34) (n + 33) 4 := by rw [h119]; exact isO.here rfl
  refine c_dup (pc := 69) (n := n + 34) (cells := 34) (slots := 326) K dX1_init_69 rfl ?_
  refine c_callN (pc := 70) (n := n + 34) (cells := 34) (slots := 326) (host := "TwoCards") K (kX4_init l F0h119 rfl) hQ.2.2.2.2 (jg_cons jw_c_X4_init) rfl rfl rfl (List.mem_cons_of_mem _ jw_n_X4) (by decide +kernel) (List.mem_cons_of_mem _ jw_i_X4_init) rfl jd_X4_init ⟨Nat.le_of_ble_eq_true rfl, Nat.le_of_ble_eq_true rfl⟩ (Nat.le_of_ble_eq_true rfl) (Nat.le_of_ble_eq_true rfl) (Nat.le_of_ble_eq_true rfl) dX1_init_70 ?_
  refine c_nm hF (fun f121 h122 hF => ?_)
  have Ch122 : h_K f118 (n + 34) (n + 33) f121 := by rw [h122]; exact wX4_init F0h119 rfl
  have Oq123 : isO f121 (n + 36) a 1 := Oq120.call Ch122 (by omega)
  have Kq123 : h_K f n a f121 := Kq120.call Ch122 (by omega) (by omega) hO.1
  have Fq123_33 : isO f121 (n + 36) (n + 33) 4 := F0h119.call Ch122 (by omega)
  have Gq123_5 : h_g f121 a 5 (1, (n + 5)) := Gq120_5.call Ch122 Oq120.1 (by have := hO.1; omega)
  have Rq123_5 : isR f121 (n + 36) (n + 5) 5 24 := Rq120_5.call Ch122 (by omega)
  refine c_aast (pc := 73) (n := n + 36) (cells := 36) (slots := 344) (C := RX4) (T := TX4) (N := 8) K 9 Rq123_5 Fq123_33 rfl rfl (by decide) (by decide) dX1_init_73 ?_
  refine c_nm hF (fun f124 h125 hF => ?_)
  have Oq126 : isO f124 (n + 36) a 1 := by rw [h125]; exact Oq123.put
  have Kq126 : h_K f n a f124 := by rw [h125]; exact Kq123.far (by omega) hO.1
  have Fq126_41 : isO f124 (n + 36) (n + 33) 4 := by rw [h125]; exact Fq123_33.put
  have Gq126_5 : h_g f124 a 5 (1, (n + 5)) := by rw [h125]; exact Gq123_5.far (by have := hO.1; omega)
  have Rq126_5 : isR f124 (n + 36) (n + 5) 5 24 := by rw [h125]; exact Rq123_5.put
  refine c_iinc (pc := 74) (n := n + 36) (cells := 36) (slots := 344) (v1 := 10) (lv' := [(1, .int 10), (0, .ref (B + a))]) K dX1_init_74 0 rfl (by decide) (by decide) rfl ?_
  refine c_goto (pc := 77) (n := n + 36) (cells := 36) (slots := 344) (tgt := 55) K dX1_init_77 (by decide) ?_
  refine c_iload_n (pc := 55) (n := n + 36) (cells := 36) (slots := 344) K dX1_init_55 0 rfl ?_
  refine c_bipush (pc := 56) (n := n + 36) (cells := 36) (slots := 344) (v := 24) K dX1_init_56 rfl ?_
  refine c_geF (pc := 58) (n := n + 36) (cells := 36) (slots := 344) (tgt := 80) K dX1_init_58 (by decide) (by decide) ?_
  refine c_aload_n (pc := 61) (n := n + 36) (cells := 36) (slots := 344) K dX1_init_61 1 rfl ?_
  refine c_get (pc := 62) (n := n + 36) (cells := 36) (slots := 344) (C := RX1) (T := TX1) (N := 9) (j := 5) K Oq126 Gq126_5 rfl rfl jn_X1 (by decide) (List.mem_cons_of_mem _ jl_X1_29) dX1_init_62 ?_
  refine c_iload_n (pc := 65) (n := n + 36) (cells := 36) (slots := 344) K dX1_init_65 0 rfl ?_
  refine c_new (pc := 66) (n := n + 36) (cells := 36) (slots := 344) (ci := 4) (C := RX4) (T := TX4) (N := 8) K [(2, 0), (2, 0), (0, 0), (0, 0), (0, 0), (0, 0), (0, 0), (0, 0)] rfl rfl jn_X4 tyX4 tyX4_ok (List.mem_cons_of_mem _ jl_X1_27) (List.mem_cons_of_mem _ jw_a_X4) (List.mem_cons_of_mem _ jw_n_X4) df_X4 (Nat.le_of_ble_eq_true rfl) (Nat.le_of_ble_eq_true rfl) dX1_init_66 ?_
  refine c_nm hF (fun f127 h128 hF => ?_)
  have Oq129 : isO f127 (n + 37) a 1 := by rw [h128]; exact Oq126.new
  have Kq129 : h_K f n a f127 := by rw [h128]; exact Kq126.new (by omega) hO.1
  have Gq129_5 : h_g f127 a 5 (1, (n + 5)) := by rw [h128]; exact Gq126_5.new (by have := hO.1; omega)
  have Rq129_5 : isR f127 (n + 37) (n + 5) 5 24 := by rw [h128]; exact Rq126_5.new
  have F0h128 : isO f127 (n + 37) (n + 36) 4 := by rw [h128]; exact isO.here rfl
  refine c_dup (pc := 69) (n := n + 37) (cells := 37) (slots := 352) K dX1_init_69 rfl ?_
  refine c_callN (pc := 70) (n := n + 37) (cells := 37) (slots := 352) (host := "TwoCards") K (kX4_init l F0h128 rfl) hQ.2.2.2.2 (jg_cons jw_c_X4_init) rfl rfl rfl (List.mem_cons_of_mem _ jw_n_X4) (by decide +kernel) (List.mem_cons_of_mem _ jw_i_X4_init) rfl jd_X4_init ⟨Nat.le_of_ble_eq_true rfl, Nat.le_of_ble_eq_true rfl⟩ (Nat.le_of_ble_eq_true rfl) (Nat.le_of_ble_eq_true rfl) (Nat.le_of_ble_eq_true rfl) dX1_init_70 ?_
  refine c_nm hF (fun f130 h131 hF => ?_)
  have Ch131 : h_K f127 (n + 37) (n + 36) f130 := by rw [h131]; exact wX4_init F0h128 rfl
  have Oq132 : isO f130 (n + 39) a 1 := Oq129.call Ch131 (by omega)
  have Kq132 : h_K f n a f130 := Kq129.call Ch131 (by omega) (by omega) hO.1
  have Fq132_36 : isO f130 (n + 39) (n + 36) 4 := F0h128.call Ch131 (by omega)
  have Gq132_5 : h_g f130 a 5 (1, (n + 5)) := Gq129_5.call Ch131 Oq129.1 (by have := hO.1; omega)
  have Rq132_5 : isR f130 (n + 39) (n + 5) 5 24 := Rq129_5.call Ch131 (by omega)
  refine c_aast (pc := 73) (n := n + 39) (cells := 39) (slots := 370) (C := RX4) (T := TX4) (N := 8) K 10 Rq132_5 Fq132_36 rfl rfl (by decide) (by decide) dX1_init_73 ?_
  refine c_nm hF (fun f133 h134 hF => ?_)
  have Oq135 : isO f133 (n + 39) a 1 := by rw [h134]; exact Oq132.put
  have Kq135 : h_K f n a f133 := by rw [h134]; exact Kq132.far (by omega) hO.1
  have Fq135_44 : isO f133 (n + 39) (n + 36) 4 := by rw [h134]; exact Fq132_36.put
  have Gq135_5 : h_g f133 a 5 (1, (n + 5)) := by rw [h134]; exact Gq132_5.far (by have := hO.1; omega)
  have Rq135_5 : isR f133 (n + 39) (n + 5) 5 24 := by rw [h134]; exact Rq132_5.put
  refine c_iinc (pc := 74) (n := n + 39) (cells := 39) (slots := 370) (v1 := 11) (lv' := [(1, .int 11), (0, .ref (B + a))]) K dX1_init_74 0 rfl (by decide) (by decide) rfl ?_
  refine c_goto (pc := 77) (n := n + 39) (cells := 39) (slots := 370) (tgt := 55) K dX1_init_77 (by decide) ?_
  refine c_iload_n (pc := 55) (n := n + 39) (cells := 39) (slots := 370) K dX1_init_55 0 rfl ?_
  refine c_bipush (pc := 56) (n := n + 39) (cells := 39) (slots := 370) (v := 24) K dX1_init_56 rfl ?_
  refine c_geF (pc := 58) (n := n + 39) (cells := 39) (slots := 370) (tgt := 80) K dX1_init_58 (by decide) (by decide) ?_
  refine c_aload_n (pc := 61) (n := n + 39) (cells := 39) (slots := 370) K dX1_init_61 1 rfl ?_
  refine c_get (pc := 62) (n := n + 39) (cells := 39) (slots := 370) (C := RX1) (T := TX1) (N := 9) (j := 5) K Oq135 Gq135_5 rfl rfl jn_X1 (by decide) (List.mem_cons_of_mem _ jl_X1_29) dX1_init_62 ?_
  refine c_iload_n (pc := 65) (n := n + 39) (cells := 39) (slots := 370) K dX1_init_65 0 rfl ?_
  refine c_new (pc := 66) (n := n + 39) (cells := 39) (slots := 370) (ci := 4) (C := RX4) (T := TX4) (N := 8) K [(2, 0), (2, 0), (0, 0), (0, 0), (0, 0), (0, 0), (0, 0), (0, 0)] rfl rfl jn_X4 tyX4 tyX4_ok (List.mem_cons_of_mem _ jl_X1_27) (List.mem_cons_of_mem _ jw_a_X4) (List.mem_cons_of_mem _ jw_n_X4) df_X4 (Nat.le_of_ble_eq_true rfl) (Nat.le_of_ble_eq_true rfl) dX1_init_66 ?_
  refine c_nm hF (fun f136 h137 hF => ?_)
  have Oq138 : isO f136 (n + 40) a 1 := by rw [h137]; exact Oq135.new
  have Kq138 : h_K f n a f136 := by rw [h137]; exact Kq135.new (by omega) hO.1
  have Gq138_5 : h_g f136 a 5 (1, (n + 5)) := by rw [h137]; exact Gq135_5.new (by have := hO.1; omega)
  have Rq138_5 : isR f136 (n + 40) (n + 5) 5 24 := by rw [h137]; exact Rq135_5.new
  have F0h137 : isO f136 (n + 40) (n + 39) 4 := by rw [h137]; exact isO.here rfl
  refine c_dup (pc := 69) (n := n + 40) (cells := 40) (slots := 378) K dX1_init_69 rfl ?_
  refine c_callN (pc := 70) (n := n + 40) (cells := 40) (slots := 378) (host := "TwoCards") K (kX4_init l F0h137 rfl) hQ.2.2.2.2 (jg_cons jw_c_X4_init) rfl rfl rfl (List.mem_cons_of_mem _ jw_n_X4) (by decide +kernel) (List.mem_cons_of_mem _ jw_i_X4_init) rfl jd_X4_init ⟨Nat.le_of_ble_eq_true rfl, Nat.le_of_ble_eq_true rfl⟩ (Nat.le_of_ble_eq_true rfl) (Nat.le_of_ble_eq_true rfl) (Nat.le_of_ble_eq_true rfl) dX1_init_70 ?_
  refine c_nm hF (fun f139 h140 hF => ?_)
  have Ch140 : h_K f136 (n + 40) (n + 39) f139 := by rw [h140]; exact wX4_init F0h137 rfl
  have Oq141 : isO f139 (n + 42) a 1 := Oq138.call Ch140 (by omega)
  have Kq141 : h_K f n a f139 := Kq138.call Ch140 (by omega) (by omega) hO.1
  have Fq141_39 : isO f139 (n + 42) (n + 39) 4 := F0h137.call Ch140 (by omega)
  have Gq141_5 : h_g f139 a 5 (1, (n + 5)) := Gq138_5.call Ch140 Oq138.1 (by have := hO.1; omega)
  have Rq141_5 : isR f139 (n + 42) (n + 5) 5 24 := Rq138_5.call Ch140 (by omega)
  refine c_aast (pc := 73) (n := n + 42) (cells := 42) (slots := 396) (C := RX4) (T := TX4) (N := 8) K 11 Rq141_5 Fq141_39 rfl rfl (by decide) (by decide) dX1_init_73 ?_
  refine c_nm hF (fun f142 h143 hF => ?_)
  have Oq144 : isO f142 (n + 42) a 1 := by rw [h143]; exact Oq141.put
  have Kq144 : h_K f n a f142 := by rw [h143]; exact Kq141.far (by omega) hO.1
  have Fq144_47 : isO f142 (n + 42) (n + 39) 4 := by rw [h143]; exact Fq141_39.put
  have Gq144_5 : h_g f142 a 5 (1, (n + 5)) := by rw [h143]; exact Gq141_5.far (by have := hO.1; omega)
  have Rq144_5 : isR f142 (n + 42) (n + 5) 5 24 := by rw [h143]; exact Rq141_5.put
  refine c_iinc (pc := 74) (n := n + 42) (cells := 42) (slots := 396) (v1 := 12) (lv' := [(1, .int 12), (0, .ref (B + a))]) K dX1_init_74 0 rfl (by decide) (by decide) rfl ?_
  refine c_goto (pc := 77) (n := n + 42) (cells := 42) (slots := 396) (tgt := 55) K dX1_init_77 (by decide) ?_
  refine c_iload_n (pc := 55) (n := n + 42) (cells := 42) (slots := 396) K dX1_init_55 0 rfl ?_
  refine c_bipush (pc := 56) (n := n + 42) (cells := 42) (slots := 396) (v := 24) K dX1_init_56 rfl ?_
  refine c_geF (pc := 58) (n := n + 42) (cells := 42) (slots := 396) (tgt := 80) K dX1_init_58 (by decide) (by decide) ?_
  refine c_aload_n (pc := 61) (n := n + 42) (cells := 42) (slots := 396) K dX1_init_61 1 rfl ?_
  refine c_get (pc := 62) (n := n + 42) (cells := 42) (slots := 396) (C := RX1) (T := TX1) (N := 9) (j := 5) K Oq144 Gq144_5 rfl rfl jn_X1 (by decide) (List.mem_cons_of_mem _ jl_X1_29) dX1_init_62 ?_
  refine c_iload_n (pc := 65) (n := n + 42) (cells := 42) (slots := 396) K dX1_init_65 0 rfl ?_
  refine c_new (pc := 66) (n := n + 42) (cells := 42) (slots := 396) (ci := 4) (C := RX4) (T := TX4) (N := 8) K [(2, 0), (2, 0), (0, 0), (0, 0), (0, 0), (0, 0), (0, 0), (0, 0)] rfl rfl jn_X4 tyX4 tyX4_ok (List.mem_cons_of_mem _ jl_X1_27) (List.mem_cons_of_mem _ jw_a_X4) (List.mem_cons_of_mem _ jw_n_X4) df_X4 (Nat.le_of_ble_eq_true rfl) (Nat.le_of_ble_eq_true rfl) dX1_init_66 ?_
  refine c_nm hF (fun f145 h146 hF => ?_)
  have Oq147 : isO f145 (n + 43) a 1 := by rw [h146]; exact Oq144.new
  have Kq147 : h_K f n a f145 := by rw [h146]; exact Kq144.new (by omega) hO.1
  have Gq147_5 : h_g f145 a 5 (1, (n + 5)) := by rw [h146]; exact Gq144_5.new (by have := hO.1; omega)
  have Rq147_5 : isR f145 (n + 43) (n + 5) 5 24 := by rw [h146]; exact Rq144_5.new
  have F0h146 : isO f145 (n + 43) (n + 42) 4 := by rw [h146]; exact isO.here rfl
  refine c_dup (pc := 69) (n := n + 43) (cells := 43) (slots := 404) K dX1_init_69 rfl ?_
  refine c_callN (pc := 70) (n := n + 43) (cells := 43) (slots := 404) (host := "TwoCards") K (kX4_init l F0h146 rfl) hQ.2.2.2.2 (jg_cons jw_c_X4_init) rfl rfl rfl (List.mem_cons_of_mem _ jw_n_X4) (by decide +kernel) (List.mem_cons_of_mem _ jw_i_X4_init) rfl jd_X4_init ⟨Nat.le_of_ble_eq_true rfl, Nat.le_of_ble_eq_true rfl⟩ (Nat.le_of_ble_eq_true rfl) (Nat.le_of_ble_eq_true rfl) (Nat.le_of_ble_eq_true rfl) dX1_init_70 ?_
  refine c_nm hF (fun f148 h149 hF => ?_)
  have Ch149 : h_K f145 (n + 43) (n + 42) f148 := by rw [h149]; exact wX4_init F0h146 rfl
  have Oq150 : isO f148 (n + 45) a 1 := Oq147.call Ch149 (by omega)
  have Kq150 : h_K f n a f148 := Kq147.call Ch149 (by omega) (by omega) hO.1
  have Fq150_42 : isO f148 (n + 45) (n + 42) 4 := F0h146.call Ch149 (by omega)
  have Gq150_5 : h_g f148 a 5 (1, (n + 5)) := Gq147_5.call Ch149 Oq147.1 (by have := hO.1; omega)
  have Rq150_5 : isR f148 (n + 45) (n + 5) 5 24 := Rq147_5.call Ch149 (by omega)
  refine c_aast (pc := 73) (n := n + 45) (cells := 45) (slots := 422) (C := RX4) (T := TX4) (N := 8) K 12 Rq150_5 Fq150_42 rfl rfl (by decide) (by decide) dX1_init_73 ?_
  refine c_nm hF (fun f151 h152 hF => ?_)
  have Oq153 : isO f151 (n + 45) a 1 := by rw [h152]; exact Oq150.put
  have Kq153 : h_K f n a f151 := by rw [h152]; exact Kq150.far (by omega) hO.1
  have Fq153_50 : isO f151 (n + 45) (n + 42) 4 := by rw [h152]; exact Fq150_42.put
  have Gq153_5 : h_g f151 a 5 (1, (n + 5)) := by rw [h152]; exact Gq150_5.far (by have := hO.1; omega)
  have Rq153_5 : isR f151 (n + 45) (n + 5) 5 24 := by rw [h152]; exact Rq150_5.put
  refine c_iinc (pc := 74) (n := n + 45) (cells := 45) (slots := 422) (v1 := 13) (lv' := [(1, .int 13), (0, .ref (B + a))]) K dX1_init_74 0 rfl (by decide) (by decide) rfl ?_
  refine c_goto (pc := 77) (n := n + 45) (cells := 45) (slots := 422) (tgt := 55) K dX1_init_77 (by decide) ?_
  refine c_iload_n (pc := 55) (n := n + 45) (cells := 45) (slots := 422) K dX1_init_55 0 rfl ?_
  refine c_bipush (pc := 56) (n := n + 45) (cells := 45) (slots := 422) (v := 24) K dX1_init_56 rfl ?_
  refine c_geF (pc := 58) (n := n + 45) (cells := 45) (slots := 422) (tgt := 80) K dX1_init_58 (by decide) (by decide) ?_
  refine c_aload_n (pc := 61) (n := n + 45) (cells := 45) (slots := 422) K dX1_init_61 1 rfl ?_
  refine c_get (pc := 62) (n := n + 45) (cells := 45) (slots := 422) (C := RX1) (T := TX1) (N := 9) (j := 5) K Oq153 Gq153_5 rfl rfl jn_X1 (by decide) (List.mem_cons_of_mem _ jl_X1_29) dX1_init_62 ?_
  refine c_iload_n (pc := 65) (n := n + 45) (cells := 45) (slots := 422) K dX1_init_65 0 rfl ?_
  refine c_new (pc := 66) (n := n + 45) (cells := 45) (slots := 422) (ci := 4) (C := RX4) (T := TX4) (N := 8) K [(2, 0), (2, 0), (0, 0), (0, 0), (0, 0), (0, 0), (0, 0), (0, 0)] rfl rfl jn_X4 tyX4 tyX4_ok (List.mem_cons_of_mem _ jl_X1_27) (List.mem_cons_of_mem _ jw_a_X4) (List.mem_cons_of_mem _ jw_n_X4) df_X4 (Nat.le_of_ble_eq_true rfl) (Nat.le_of_ble_eq_true rfl) dX1_init_66 ?_
  refine c_nm hF (fun f154 h155 hF => ?_)
  have Oq156 : isO f154 (n + 46) a 1 := by rw [h155]; exact Oq153.new
  have Kq156 : h_K f n a f154 := by rw [h155]; exact Kq153.new (by omega) hO.1
  have Gq156_5 : h_g f154 a 5 (1, (n + 5)) := by rw [h155]; exact Gq153_5.new (by have := hO.1; omega)
  have Rq156_5 : isR f154 (n + 46) (n + 5) 5 24 := by rw [h155]; exact Rq153_5.new
  have F0h155 : isO f154 (n + 46) (n + 45) 4 := by rw [h155]; exact isO.here rfl
  refine c_dup (pc := 69) (n := n + 46) (cells := 46) (slots := 430) K dX1_init_69 rfl ?_
  refine c_callN (pc := 70) (n := n + 46) (cells := 46) (slots := 430) (host := "TwoCards") K (kX4_init l F0h155 rfl) hQ.2.2.2.2 (jg_cons jw_c_X4_init) rfl rfl rfl (List.mem_cons_of_mem _ jw_n_X4) (by decide +kernel) (List.mem_cons_of_mem _ jw_i_X4_init) rfl jd_X4_init ⟨Nat.le_of_ble_eq_true rfl, Nat.le_of_ble_eq_true rfl⟩ (Nat.le_of_ble_eq_true rfl) (Nat.le_of_ble_eq_true rfl) (Nat.le_of_ble_eq_true rfl) dX1_init_70 ?_
  refine c_nm hF (fun f157 h158 hF => ?_)
  have Ch158 : h_K f154 (n + 46) (n + 45) f157 := by rw [h158]; exact wX4_init F0h155 rfl
  have Oq159 : isO f157 (n + 48) a 1 := Oq156.call Ch158 (by omega)
  have Kq159 : h_K f n a f157 := Kq156.call Ch158 (by omega) (by omega) hO.1
  have Fq159_45 : isO f157 (n + 48) (n + 45) 4 := F0h155.call Ch158 (by omega)
  have Gq159_5 : h_g f157 a 5 (1, (n + 5)) := Gq156_5.call Ch158 Oq156.1 (by have := hO.1; omega)
  have Rq159_5 : isR f157 (n + 48) (n + 5) 5 24 := Rq156_5.call Ch158 (by omega)
  refine c_aast (pc := 73) (n := n + 48) (cells := 48) (slots := 448) (C := RX4) (T := TX4) (N := 8) K 13 Rq159_5 Fq159_45 rfl rfl (by decide) (by decide) dX1_init_73 ?_
  refine c_nm hF (fun f160 h161 hF => ?_)
  have Oq162 : isO f160 (n + 48) a 1 := by rw [h161]; exact Oq159.put
  have Kq162 : h_K f n a f160 := by rw [h161]; exact Kq159.far (by omega) hO.1
  have Fq162_53 : isO f160 (n + 48) (n + 45) 4 := by rw [h161]; exact Fq159_45.put
  have Gq162_5 : h_g f160 a 5 (1, (n + 5)) := by rw [h161]; exact Gq159_5.far (by have := hO.1; omega)
  have Rq162_5 : isR f160 (n + 48) (n + 5) 5 24 := by rw [h161]; exact Rq159_5.put
  refine c_iinc (pc := 74) (n := n + 48) (cells := 48) (slots := 448) (v1 := 14) (lv' := [(1, .int 14), (0, .ref (B + a))]) K dX1_init_74 0 rfl (by decide) (by decide) rfl ?_
  refine c_goto (pc := 77) (n := n + 48) (cells := 48) (slots := 448) (tgt := 55) K dX1_init_77 (by decide) ?_
  refine c_iload_n (pc := 55) (n := n + 48) (cells := 48) (slots := 448) K dX1_init_55 0 rfl ?_
  refine c_bipush (pc := 56) (n := n + 48) (cells := 48) (slots := 448) (v := 24) K dX1_init_56 rfl ?_
  refine c_geF (pc := 58) (n := n + 48) (cells := 48) (slots := 448) (tgt := 80) K dX1_init_58 (by decide) (by decide) ?_
  refine c_aload_n (pc := 61) (n := n + 48) (cells := 48) (slots := 448) K dX1_init_61 1 rfl ?_
  refine c_get (pc := 62) (n := n + 48) (cells := 48) (slots := 448) (C := RX1) (T := TX1) (N := 9) (j := 5) K Oq162 Gq162_5 rfl rfl jn_X1 (by decide) (List.mem_cons_of_mem _ jl_X1_29) dX1_init_62 ?_
  refine c_iload_n (pc := 65) (n := n + 48) (cells := 48) (slots := 448) K dX1_init_65 0 rfl ?_
  refine c_new (pc := 66) (n := n + 48) (cells := 48) (slots := 448) (ci := 4) (C := RX4) (T := TX4) (N := 8) K [(2, 0), (2, 0), (0, 0), (0, 0), (0, 0), (0, 0), (0, 0), (0, 0)] rfl rfl jn_X4 tyX4 tyX4_ok (List.mem_cons_of_mem _ jl_X1_27) (List.mem_cons_of_mem _ jw_a_X4) (List.mem_cons_of_mem _ jw_n_X4) df_X4 (Nat.le_of_ble_eq_true rfl) (Nat.le_of_ble_eq_true rfl) dX1_init_66 ?_
  refine c_nm hF (fun f163 h164 hF => ?_)
  have Oq165 : isO f163 (n + 49) a 1 := by rw [h164]; exact Oq162.new
  have Kq165 : h_K f n a f163 := by rw [h164]; exact Kq162.new (by omega) hO.1
  have Gq165_5 : h_g f163 a 5 (1, (n + 5)) := by rw [h164]; exact Gq162_5.new (by have := hO.1; omega)
  have Rq165_5 : isR f163 (n + 49) (n + 5) 5 24 := by rw [h164]; exact Rq162_5.new
  have F0h164 : isO f163 (n + 49) (n + 48) 4 := by rw [h164]; exact isO.here rfl
  refine c_dup (pc := 69) (n := n + 49) (cells := 49) (slots := 456) K dX1_init_69 rfl ?_
  refine c_callN (pc := 70) (n := n + 49) (cells := 49) (slots := 456) (host := "TwoCards") K (kX4_init l F0h164 rfl) hQ.2.2.2.2 (jg_cons jw_c_X4_init) rfl rfl rfl (List.mem_cons_of_mem _ jw_n_X4) (by decide +kernel) (List.mem_cons_of_mem _ jw_i_X4_init) rfl jd_X4_init ⟨Nat.le_of_ble_eq_true rfl, Nat.le_of_ble_eq_true rfl⟩ (Nat.le_of_ble_eq_true rfl) (Nat.le_of_ble_eq_true rfl) (Nat.le_of_ble_eq_true rfl) dX1_init_70 ?_
  refine c_nm hF (fun f166 h167 hF => ?_)
  have Ch167 : h_K f163 (n + 49) (n + 48) f166 := by rw [h167]; exact wX4_init F0h164 rfl
  have Oq168 : isO f166 (n + 51) a 1 := Oq165.call Ch167 (by omega)
  have Kq168 : h_K f n a f166 := Kq165.call Ch167 (by omega) (by omega) hO.1
  have Fq168_48 : isO f166 (n + 51) (n + 48) 4 := F0h164.call Ch167 (by omega)
  have Gq168_5 : h_g f166 a 5 (1, (n + 5)) := Gq165_5.call Ch167 Oq165.1 (by have := hO.1; omega)
  have Rq168_5 : isR f166 (n + 51) (n + 5) 5 24 := Rq165_5.call Ch167 (by omega)
  refine c_aast (pc := 73) (n := n + 51) (cells := 51) (slots := 474) (C := RX4) (T := TX4) (N := 8) K 14 Rq168_5 Fq168_48 rfl rfl (by decide) (by decide) dX1_init_73 ?_
  refine c_nm hF (fun f169 h170 hF => ?_)
  have Oq171 : isO f169 (n + 51) a 1 := by rw [h170]; exact Oq168.put
  have Kq171 : h_K f n a f169 := by rw [h170]; exact Kq168.far (by omega) hO.1
  have Fq171_56 : isO f169 (n + 51) (n + 48) 4 := by rw [h170]; exact Fq168_48.put
  have Gq171_5 : h_g f169 a 5 (1, (n + 5)) := by rw [h170]; exact Gq168_5.far (by have := hO.1; omega)
  have Rq171_5 : isR f169 (n + 51) (n + 5) 5 24 := by rw [h170]; exact Rq168_5.put
  refine c_iinc (pc := 74) (n := n + 51) (cells := 51) (slots := 474) (v1 := 15) (lv' := [(1, .int 15), (0, .ref (B + a))]) K dX1_init_74 0 rfl (by decide) (by decide) rfl ?_
  refine c_goto (pc := 77) (n := n + 51) (cells := 51) (slots := 474) (tgt := 55) K dX1_init_77 (by decide) ?_
  refine c_iload_n (pc := 55) (n := n + 51) (cells := 51) (slots := 474) K dX1_init_55 0 rfl ?_
  refine c_bipush (pc := 56) (n := n + 51) (cells := 51) (slots := 474) (v := 24) K dX1_init_56 rfl ?_
  refine c_geF (pc := 58) (n := n + 51) (cells := 51) (slots := 474) (tgt := 80) K dX1_init_58 (by decide) (by decide) ?_
  refine c_aload_n (pc := 61) (n := n + 51) (cells := 51) (slots := 474) K dX1_init_61 1 rfl ?_
  refine c_get (pc := 62) (n := n + 51) (cells := 51) (slots := 474) (C := RX1) (T := TX1) (N := 9) (j := 5) K Oq171 Gq171_5 rfl rfl jn_X1 (by decide) (List.mem_cons_of_mem _ jl_X1_29) dX1_init_62 ?_
  refine c_iload_n (pc := 65) (n := n + 51) (cells := 51) (slots := 474) K dX1_init_65 0 rfl ?_
  refine c_new (pc := 66) (n := n + 51) (cells := 51) (slots := 474) (ci := 4) (C := RX4) (T := TX4) (N := 8) K [(2, 0), (2, 0), (0, 0), (0, 0), (0, 0), (0, 0), (0, 0), (0, 0)] rfl rfl jn_X4 tyX4 tyX4_ok (List.mem_cons_of_mem _ jl_X1_27) (List.mem_cons_of_mem _ jw_a_X4) (List.mem_cons_of_mem _ jw_n_X4) df_X4 (Nat.le_of_ble_eq_true rfl) (Nat.le_of_ble_eq_true rfl) dX1_init_66 ?_
  refine c_nm hF (fun f172 h173 hF => ?_)
  have Oq174 : isO f172 (n + 52) a 1 := by rw [h173]; exact Oq171.new
  have Kq174 : h_K f n a f172 := by rw [h173]; exact Kq171.new (by omega) hO.1
  have Gq174_5 : h_g f172 a 5 (1, (n + 5)) := by rw [h173]; exact Gq171_5.new (by have := hO.1; omega)
  have Rq174_5 : isR f172 (n + 52) (n + 5) 5 24 := by rw [h173]; exact Rq171_5.new
  have F0h173 : isO f172 (n + 52) (n + 51) 4 := by rw [h173]; exact isO.here rfl
  refine c_dup (pc := 69) (n := n + 52) (cells := 52) (slots := 482) K dX1_init_69 rfl ?_
  refine c_callN (pc := 70) (n := n + 52) (cells := 52) (slots := 482) (host := "TwoCards") K (kX4_init l F0h173 rfl) hQ.2.2.2.2 (jg_cons jw_c_X4_init) rfl rfl rfl (List.mem_cons_of_mem _ jw_n_X4) (by decide +kernel) (List.mem_cons_of_mem _ jw_i_X4_init) rfl jd_X4_init ⟨Nat.le_of_ble_eq_true rfl, Nat.le_of_ble_eq_true rfl⟩ (Nat.le_of_ble_eq_true rfl) (Nat.le_of_ble_eq_true rfl) (Nat.le_of_ble_eq_true rfl) dX1_init_70 ?_
  refine c_nm hF (fun f175 h176 hF => ?_)
  have Ch176 : h_K f172 (n + 52) (n + 51) f175 := by rw [h176]; exact wX4_init F0h173 rfl
  have Oq177 : isO f175 (n + 54) a 1 := Oq174.call Ch176 (by omega)
  have Kq177 : h_K f n a f175 := Kq174.call Ch176 (by omega) (by omega) hO.1
  have Fq177_51 : isO f175 (n + 54) (n + 51) 4 := F0h173.call Ch176 (by omega)
  have Gq177_5 : h_g f175 a 5 (1, (n + 5)) := Gq174_5.call Ch176 Oq174.1 (by have := hO.1; omega)
  have Rq177_5 : isR f175 (n + 54) (n + 5) 5 24 := Rq174_5.call Ch176 (by omega)
  refine c_aast (pc := 73) (n := n + 54) (cells := 54) (slots := 500) (C := RX4) (T := TX4) (N := 8) K 15 Rq177_5 Fq177_51 rfl rfl (by decide) (by decide) dX1_init_73 ?_
  refine c_nm hF (fun f178 h179 hF => ?_)
  have Oq180 : isO f178 (n + 54) a 1 := by rw [h179]; exact Oq177.put
  have Kq180 : h_K f n a f178 := by rw [h179]; exact Kq177.far (by omega) hO.1
  have Fq180_59 : isO f178 (n + 54) (n + 51) 4 := by rw [h179]; exact Fq177_51.put
  have Gq180_5 : h_g f178 a 5 (1, (n + 5)) := by rw [h179]; exact Gq177_5.far (by have := hO.1; omega)
  have Rq180_5 : isR f178 (n + 54) (n + 5) 5 24 := by rw [h179]; exact Rq177_5.put
  refine c_iinc (pc := 74) (n := n + 54) (cells := 54) (slots := 500) (v1 := 16) (lv' := [(1, .int 16), (0, .ref (B + a))]) K dX1_init_74 0 rfl (by decide) (by decide) rfl ?_
  refine c_goto (pc := 77) (n := n + 54) (cells := 54) (slots := 500) (tgt := 55) K dX1_init_77 (by decide) ?_
  refine c_iload_n (pc := 55) (n := n + 54) (cells := 54) (slots := 500) K dX1_init_55 0 rfl ?_
  refine c_bipush (pc := 56) (n := n + 54) (cells := 54) (slots := 500) (v := 24) K dX1_init_56 rfl ?_
  refine c_geF (pc := 58) (n := n + 54) (cells := 54) (slots := 500) (tgt := 80) K dX1_init_58 (by decide) (by decide) ?_
  refine c_aload_n (pc := 61) (n := n + 54) (cells := 54) (slots := 500) K dX1_init_61 1 rfl ?_
  refine c_get (pc := 62) (n := n + 54) (cells := 54) (slots := 500) (C := RX1) (T := TX1) (N := 9) (j := 5) K Oq180 Gq180_5 rfl rfl jn_X1 (by decide) (List.mem_cons_of_mem _ jl_X1_29) dX1_init_62 ?_
  refine c_iload_n (pc := 65) (n := n + 54) (cells := 54) (slots := 500) K dX1_init_65 0 rfl ?_
  refine c_new (pc := 66) (n := n + 54) (cells := 54) (slots := 500) (ci := 4) (C := RX4) (T := TX4) (N := 8) K [(2, 0), (2, 0), (0, 0), (0, 0), (0, 0), (0, 0), (0, 0), (0, 0)] rfl rfl jn_X4 tyX4 tyX4_ok (List.mem_cons_of_mem _ jl_X1_27) (List.mem_cons_of_mem _ jw_a_X4) (List.mem_cons_of_mem _ jw_n_X4) df_X4 (Nat.le_of_ble_eq_true rfl) (Nat.le_of_ble_eq_true rfl) dX1_init_66 ?_
  refine c_nm hF (fun f181 h182 hF => ?_)
  have Oq183 : isO f181 (n + 55) a 1 := by rw [h182]; exact Oq180.new
  have Kq183 : h_K f n a f181 := by rw [h182]; exact Kq180.new (by omega) hO.1
  have Gq183_5 : h_g f181 a 5 (1, (n + 5)) := by rw [h182]; exact Gq180_5.new (by have := hO.1; omega)
  have Rq183_5 : isR f181 (n + 55) (n + 5) 5 24 := by rw [h182]; exact Rq180_5.new
  have F0h182 : isO f181 (n + 55) (n + 54) 4 := by rw [h182]; exact isO.here rfl
  refine c_dup (pc := 69) (n := n + 55) (cells := 55) (slots := 508) K dX1_init_69 rfl ?_
  refine c_callN (pc := 70) (n := n + 55) (cells := 55) (slots := 508) (host := "TwoCards") K (kX4_init l F0h182 rfl) hQ.2.2.2.2 (jg_cons jw_c_X4_init) rfl rfl rfl (List.mem_cons_of_mem _ jw_n_X4) (by decide +kernel) (List.mem_cons_of_mem _ jw_i_X4_init) rfl jd_X4_init ⟨Nat.le_of_ble_eq_true rfl, Nat.le_of_ble_eq_true rfl⟩ (Nat.le_of_ble_eq_true rfl) (Nat.le_of_ble_eq_true rfl) (Nat.le_of_ble_eq_true rfl) dX1_init_70 ?_
  refine c_nm hF (fun f184 h185 hF => ?_)
  have Ch185 : h_K f181 (n + 55) (n + 54) f184 := by rw [h185]; exact wX4_init F0h182 rfl
  have Oq186 : isO f184 (n + 57) a 1 := Oq183.call Ch185 (by omega)
  have Kq186 : h_K f n a f184 := Kq183.call Ch185 (by omega) (by omega) hO.1
  have Fq186_54 : isO f184 (n + 57) (n + 54) 4 := F0h182.call Ch185 (by omega)
  have Gq186_5 : h_g f184 a 5 (1, (n + 5)) := Gq183_5.call Ch185 Oq183.1 (by have := hO.1; omega)
  have Rq186_5 : isR f184 (n + 57) (n + 5) 5 24 := Rq183_5.call Ch185 (by omega)
  refine c_aast (pc := 73) (n := n + 57) (cells := 57) (slots := 526) (C := RX4) (T := TX4) (N := 8) K 16 Rq186_5 Fq186_54 rfl rfl (by decide) (by decide) dX1_init_73 ?_
  refine c_nm hF (fun f187 h188 hF => ?_)
  have Oq189 : isO f187 (n + 57) a 1 := by rw [h188]; exact Oq186.put
  have Kq189 : h_K f n a f187 := by rw [h188]; exact Kq186.far (by omega) hO.1
  have Fq189_62 : isO f187 (n + 57) (n + 54) 4 := by rw [h188]; exact Fq186_54.put
  have Gq189_5 : h_g f187 a 5 (1, (n + 5)) := by rw [h188]; exact Gq186_5.far (by have := hO.1; omega)
  have Rq189_5 : isR f187 (n + 57) (n + 5) 5 24 := by rw [h188]; exact Rq186_5.put
  refine c_iinc (pc := 74) (n := n + 57) (cells := 57) (slots := 526) (v1 := 17) (lv' := [(1, .int 17), (0, .ref (B + a))]) K dX1_init_74 0 rfl (by decide) (by decide) rfl ?_
  refine c_goto (pc := 77) (n := n + 57) (cells := 57) (slots := 526) (tgt := 55) K dX1_init_77 (by decide) ?_
  refine c_iload_n (pc := 55) (n := n + 57) (cells := 57) (slots := 526) K dX1_init_55 0 rfl ?_
  refine c_bipush (pc := 56) (n := n + 57) (cells := 57) (slots := 526) (v := 24) K dX1_init_56 rfl ?_
  refine c_geF (pc := 58) (n := n + 57) (cells := 57) (slots := 526) (tgt := 80) K dX1_init_58 (by decide) (by decide) ?_
  refine c_aload_n (pc := 61) (n := n + 57) (cells := 57) (slots := 526) K dX1_init_61 1 rfl ?_
  refine c_get (pc := 62) (n := n + 57) (cells := 57) (slots := 526) (C := RX1) (T := TX1) (N := 9) (j := 5) K Oq189 Gq189_5 rfl rfl jn_X1 (by decide) (List.mem_cons_of_mem _ jl_X1_29) dX1_init_62 ?_
  refine c_iload_n (pc := 65) (n := n + 57) (cells := 57) (slots := 526) K dX1_init_65 0 rfl ?_
  refine c_new (pc := 66) (n := n + 57) (cells := 57) (slots := 526) (ci := 4) (C := RX4) (T := TX4) (N := 8) K [(2, 0), (2, 0), (0, 0), (0, 0), (0, 0), (0, 0), (0, 0), (0, 0)] rfl rfl jn_X4 tyX4 tyX4_ok (List.mem_cons_of_mem _ jl_X1_27) (List.mem_cons_of_mem _ jw_a_X4) (List.mem_cons_of_mem _ jw_n_X4) df_X4 (Nat.le_of_ble_eq_true rfl) (Nat.le_of_ble_eq_true rfl) dX1_init_66 ?_
  refine c_nm hF (fun f190 h191 hF => ?_)
  have Oq192 : isO f190 (n + 58) a 1 := by rw [h191]; exact Oq189.new
  have Kq192 : h_K f n a f190 := by rw [h191]; exact Kq189.new (by omega) hO.1
  have Gq192_5 : h_g f190 a 5 (1, (n + 5)) := by rw [h191]; exact Gq189_5.new (by have := hO.1; omega)
  have Rq192_5 : isR f190 (n + 58) (n + 5) 5 24 := by rw [h191]; exact Rq189_5.new
  have F0h191 : isO f190 (n + 58) (n + 57) 4 := by rw [h191]; exact isO.here rfl
  refine c_dup (pc := 69) (n := n + 58) (cells := 58) (slots := 534) K dX1_init_69 rfl ?_
  refine c_callN (pc := 70) (n := n + 58) (cells := 58) (slots := 534) (host := "TwoCards") K (kX4_init l F0h191 rfl) hQ.2.2.2.2 (jg_cons jw_c_X4_init) rfl rfl rfl (List.mem_cons_of_mem _ jw_n_X4) (by decide +kernel) (List.mem_cons_of_mem _ jw_i_X4_init) rfl jd_X4_init ⟨Nat.le_of_ble_eq_true rfl, Nat.le_of_ble_eq_true rfl⟩ (Nat.le_of_ble_eq_true rfl) (Nat.le_of_ble_eq_true rfl) (Nat.le_of_ble_eq_true rfl) dX1_init_70 ?_
  refine c_nm hF (fun f193 h194 hF => ?_)
  have Ch194 : h_K f190 (n + 58) (n + 57) f193 := by rw [h194]; exact wX4_init F0h191 rfl
  have Oq195 : isO f193 (n + 60) a 1 := Oq192.call Ch194 (by omega)
  have Kq195 : h_K f n a f193 := Kq192.call Ch194 (by omega) (by omega) hO.1
  have Fq195_57 : isO f193 (n + 60) (n + 57) 4 := F0h191.call Ch194 (by omega)
  have Gq195_5 : h_g f193 a 5 (1, (n + 5)) := Gq192_5.call Ch194 Oq192.1 (by have := hO.1; omega)
  have Rq195_5 : isR f193 (n + 60) (n + 5) 5 24 := Rq192_5.call Ch194 (by omega)
  refine c_aast (pc := 73) (n := n + 60) (cells := 60) (slots := 552) (C := RX4) (T := TX4) (N := 8) K 17 Rq195_5 Fq195_57 rfl rfl (by decide) (by decide) dX1_init_73 ?_
  refine c_nm hF (fun f196 h197 hF => ?_)
  have Oq198 : isO f196 (n + 60) a 1 := by rw [h197]; exact Oq195.put
  have Kq198 : h_K f n a f196 := by rw [h197]; exact Kq195.far (by omega) hO.1
  have Fq198_65 : isO f196 (n + 60) (n + 57) 4 := by rw [h197]; exact Fq195_57.put
  have Gq198_5 : h_g f196 a 5 (1, (n + 5)) := by rw [h197]; exact Gq195_5.far (by have := hO.1; omega)
  have Rq198_5 : isR f196 (n + 60) (n + 5) 5 24 := by rw [h197]; exact Rq195_5.put
  refine c_iinc (pc := 74) (n := n + 60) (cells := 60) (slots := 552) (v1 := 18) (lv' := [(1, .int 18), (0, .ref (B + a))]) K dX1_init_74 0 rfl (by decide) (by decide) rfl ?_
  refine c_goto (pc := 77) (n := n + 60) (cells := 60) (slots := 552) (tgt := 55) K dX1_init_77 (by decide) ?_
  refine c_iload_n (pc := 55) (n := n + 60) (cells := 60) (slots := 552) K dX1_init_55 0 rfl ?_
  refine c_bipush (pc := 56) (n := n + 60) (cells := 60) (slots := 552) (v := 24) K dX1_init_56 rfl ?_
  refine c_geF (pc := 58) (n := n + 60) (cells := 60) (slots := 552) (tgt := 80) K dX1_init_58 (by decide) (by decide) ?_
  refine c_aload_n (pc := 61) (n := n + 60) (cells := 60) (slots := 552) K dX1_init_61 1 rfl ?_
  refine c_get (pc := 62) (n := n + 60) (cells := 60) (slots := 552) (C := RX1) (T := TX1) (N := 9) (j := 5) K Oq198 Gq198_5 rfl rfl jn_X1 (by decide) (List.mem_cons_of_mem _ jl_X1_29) dX1_init_62 ?_
  refine c_iload_n (pc := 65) (n := n + 60) (cells := 60) (slots := 552) K dX1_init_65 0 rfl ?_
  refine c_new (pc := 66) (n := n + 60) (cells := 60) (slots := 552) (ci := 4) (C := RX4) (T := TX4) (N := 8) K [(2, 0), (2, 0), (0, 0), (0, 0), (0, 0), (0, 0), (0, 0), (0, 0)] rfl rfl jn_X4 tyX4 tyX4_ok (List.mem_cons_of_mem _ jl_X1_27) (List.mem_cons_of_mem _ jw_a_X4) (List.mem_cons_of_mem _ jw_n_X4) df_X4 (Nat.le_of_ble_eq_true rfl) (Nat.le_of_ble_eq_true rfl) dX1_init_66 ?_
  refine c_nm hF (fun f199 h200 hF => ?_)
  have Oq201 : isO f199 (n + 61) a 1 := by rw [h200]; exact Oq198.new
  have Kq201 : h_K f n a f199 := by rw [h200]; exact Kq198.new (by omega) hO.1
  have Gq201_5 : h_g f199 a 5 (1, (n + 5)) := by rw [h200]; exact Gq198_5.new (by have := hO.1; omega)
  have Rq201_5 : isR f199 (n + 61) (n + 5) 5 24 := by rw [h200]; exact Rq198_5.new
  have F0h200 : isO f199 (n + 61) (n + 60) 4 := by rw [h200]; exact isO.here rfl
  refine c_dup (pc := 69) (n := n + 61) (cells := 61) (slots := 560) K dX1_init_69 rfl ?_
  refine c_callN (pc := 70) (n := n + 61) (cells := 61) (slots := 560) (host := "TwoCards") K (kX4_init l F0h200 rfl) hQ.2.2.2.2 (jg_cons jw_c_X4_init) rfl rfl rfl (List.mem_cons_of_mem _ jw_n_X4) (by decide +kernel) (List.mem_cons_of_mem _ jw_i_X4_init) rfl jd_X4_init ⟨Nat.le_of_ble_eq_true rfl, Nat.le_of_ble_eq_true rfl⟩ (Nat.le_of_ble_eq_true rfl) (Nat.le_of_ble_eq_true rfl) (Nat.le_of_ble_eq_true rfl) dX1_init_70 ?_
  refine c_nm hF (fun f202 h203 hF => ?_)
  have Ch203 : h_K f199 (n + 61) (n + 60) f202 := by rw [h203]; exact wX4_init F0h200 rfl
  have Oq204 : isO f202 (n + 63) a 1 := Oq201.call Ch203 (by omega)
  have Kq204 : h_K f n a f202 := Kq201.call Ch203 (by omega) (by omega) hO.1
  have Fq204_60 : isO f202 (n + 63) (n + 60) 4 := F0h200.call Ch203 (by omega)
  have Gq204_5 : h_g f202 a 5 (1, (n + 5)) := Gq201_5.call Ch203 Oq201.1 (by have := hO.1; omega)
  have Rq204_5 : isR f202 (n + 63) (n + 5) 5 24 := Rq201_5.call Ch203 (by omega)
  refine c_aast (pc := 73) (n := n + 63) (cells := 63) (slots := 578) (C := RX4) (T := TX4) (N := 8) K 18 Rq204_5 Fq204_60 rfl rfl (by decide) (by decide) dX1_init_73 ?_
  refine c_nm hF (fun f205 h206 hF => ?_)
  have Oq207 : isO f205 (n + 63) a 1 := by rw [h206]; exact Oq204.put
  have Kq207 : h_K f n a f205 := by rw [h206]; exact Kq204.far (by omega) hO.1
  have Fq207_68 : isO f205 (n + 63) (n + 60) 4 := by rw [h206]; exact Fq204_60.put
  have Gq207_5 : h_g f205 a 5 (1, (n + 5)) := by rw [h206]; exact Gq204_5.far (by have := hO.1; omega)
  have Rq207_5 : isR f205 (n + 63) (n + 5) 5 24 := by rw [h206]; exact Rq204_5.put
  refine c_iinc (pc := 74) (n := n + 63) (cells := 63) (slots := 578) (v1 := 19) (lv' := [(1, .int 19), (0, .ref (B + a))]) K dX1_init_74 0 rfl (by decide) (by decide) rfl ?_
  refine c_goto (pc := 77) (n := n + 63) (cells := 63) (slots := 578) (tgt := 55) K dX1_init_77 (by decide) ?_
  refine c_iload_n (pc := 55) (n := n + 63) (cells := 63) (slots := 578) K dX1_init_55 0 rfl ?_
  refine c_bipush (pc := 56) (n := n + 63) (cells := 63) (slots := 578) (v := 24) K dX1_init_56 rfl ?_
  refine c_geF (pc := 58) (n := n + 63) (cells := 63) (slots := 578) (tgt := 80) K dX1_init_58 (by decide) (by decide) ?_
  refine c_aload_n (pc := 61) (n := n + 63) (cells := 63) (slots := 578) K dX1_init_61 1 rfl ?_
  refine c_get (pc := 62) (n := n + 63) (cells := 63) (slots := 578) (C := RX1) (T := TX1) (N := 9) (j := 5) K Oq207 Gq207_5 rfl rfl jn_X1 (by decide) (List.mem_cons_of_mem _ jl_X1_29) dX1_init_62 ?_
  refine c_iload_n (pc := 65) (n := n + 63) (cells := 63) (slots := 578) K dX1_init_65 0 rfl ?_
  refine c_new (pc := 66) (n := n + 63) (cells := 63) (slots := 578) (ci := 4) (C := RX4) (T := TX4) (N := 8) K [(2, 0), (2, 0), (0, 0), (0, 0), (0, 0), (0, 0), (0, 0), (0, 0)] rfl rfl jn_X4 tyX4 tyX4_ok (List.mem_cons_of_mem _ jl_X1_27) (List.mem_cons_of_mem _ jw_a_X4) (List.mem_cons_of_mem _ jw_n_X4) df_X4 (Nat.le_of_ble_eq_true rfl) (Nat.le_of_ble_eq_true rfl) dX1_init_66 ?_
  refine c_nm hF (fun f208 h209 hF => ?_)
  have Oq210 : isO f208 (n + 64) a 1 := by rw [h209]; exact Oq207.new
  have Kq210 : h_K f n a f208 := by rw [h209]; exact Kq207.new (by omega) hO.1
  have Gq210_5 : h_g f208 a 5 (1, (n + 5)) := by rw [h209]; exact Gq207_5.new (by have := hO.1; omega)
  have Rq210_5 : isR f208 (n + 64) (n + 5) 5 24 := by rw [h209]; exact Rq207_5.new
  have F0h209 : isO f208 (n + 64) (n + 63) 4 := by rw [h209]; exact isO.here rfl
  refine c_dup (pc := 69) (n := n + 64) (cells := 64) (slots := 586) K dX1_init_69 rfl ?_
  refine c_callN (pc := 70) (n := n + 64) (cells := 64) (slots := 586) (host := "TwoCards") K (kX4_init l F0h209 rfl) hQ.2.2.2.2 (jg_cons jw_c_X4_init) rfl rfl rfl (List.mem_cons_of_mem _ jw_n_X4) (by decide +kernel) (List.mem_cons_of_mem _ jw_i_X4_init) rfl jd_X4_init ⟨Nat.le_of_ble_eq_true rfl, Nat.le_of_ble_eq_true rfl⟩ (Nat.le_of_ble_eq_true rfl) (Nat.le_of_ble_eq_true rfl) (Nat.le_of_ble_eq_true rfl) dX1_init_70 ?_
  refine c_nm hF (fun f211 h212 hF => ?_)
  have Ch212 : h_K f208 (n + 64) (n + 63) f211 := by rw [h212]; exact wX4_init F0h209 rfl
  have Oq213 : isO f211 (n + 66) a 1 := Oq210.call Ch212 (by omega)
  have Kq213 : h_K f n a f211 := Kq210.call Ch212 (by omega) (by omega) hO.1
  have Fq213_63 : isO f211 (n + 66) (n + 63) 4 := F0h209.call Ch212 (by omega)
  have Gq213_5 : h_g f211 a 5 (1, (n + 5)) := Gq210_5.call Ch212 Oq210.1 (by have := hO.1; omega)
  have Rq213_5 : isR f211 (n + 66) (n + 5) 5 24 := Rq210_5.call Ch212 (by omega)
  refine c_aast (pc := 73) (n := n + 66) (cells := 66) (slots := 604) (C := RX4) (T := TX4) (N := 8) K 19 Rq213_5 Fq213_63 rfl rfl (by decide) (by decide) dX1_init_73 ?_
  refine c_nm hF (fun f214 h215 hF => ?_)
  have Oq216 : isO f214 (n + 66) a 1 := by rw [h215]; exact Oq213.put
  have Kq216 : h_K f n a f214 := by rw [h215]; exact Kq213.far (by omega) hO.1
  have Fq216_71 : isO f214 (n + 66) (n + 63) 4 := by rw [h215]; exact Fq213_63.put
  have Gq216_5 : h_g f214 a 5 (1, (n + 5)) := by rw [h215]; exact Gq213_5.far (by have := hO.1; omega)
  have Rq216_5 : isR f214 (n + 66) (n + 5) 5 24 := by rw [h215]; exact Rq213_5.put
  refine c_iinc (pc := 74) (n := n + 66) (cells := 66) (slots := 604) (v1 := 20) (lv' := [(1, .int 20), (0, .ref (B + a))]) K dX1_init_74 0 rfl (by decide) (by decide) rfl ?_
  refine c_goto (pc := 77) (n := n + 66) (cells := 66) (slots := 604) (tgt := 55) K dX1_init_77 (by decide) ?_
  refine c_iload_n (pc := 55) (n := n + 66) (cells := 66) (slots := 604) K dX1_init_55 0 rfl ?_
  refine c_bipush (pc := 56) (n := n + 66) (cells := 66) (slots := 604) (v := 24) K dX1_init_56 rfl ?_
  refine c_geF (pc := 58) (n := n + 66) (cells := 66) (slots := 604) (tgt := 80) K dX1_init_58 (by decide) (by decide) ?_
  refine c_aload_n (pc := 61) (n := n + 66) (cells := 66) (slots := 604) K dX1_init_61 1 rfl ?_
  refine c_get (pc := 62) (n := n + 66) (cells := 66) (slots := 604) (C := RX1) (T := TX1) (N := 9) (j := 5) K Oq216 Gq216_5 rfl rfl jn_X1 (by decide) (List.mem_cons_of_mem _ jl_X1_29) dX1_init_62 ?_
  refine c_iload_n (pc := 65) (n := n + 66) (cells := 66) (slots := 604) K dX1_init_65 0 rfl ?_
  refine c_new (pc := 66) (n := n + 66) (cells := 66) (slots := 604) (ci := 4) (C := RX4) (T := TX4) (N := 8) K [(2, 0), (2, 0), (0, 0), (0, 0), (0, 0), (0, 0), (0, 0), (0, 0)] rfl rfl jn_X4 tyX4 tyX4_ok (List.mem_cons_of_mem _ jl_X1_27) (List.mem_cons_of_mem _ jw_a_X4) (List.mem_cons_of_mem _ jw_n_X4) df_X4 (Nat.le_of_ble_eq_true rfl) (Nat.le_of_ble_eq_true rfl) dX1_init_66 ?_
  refine c_nm hF (fun f217 h218 hF => ?_)
  have Oq219 : isO f217 (n + 67) a 1 := by rw [h218]; exact Oq216.new
  have Kq219 : h_K f n a f217 := by rw [h218]; exact Kq216.new (by omega) hO.1
  have Gq219_5 : h_g f217 a 5 (1, (n + 5)) := by rw [h218]; exact Gq216_5.new (by have := hO.1; omega)
  have Rq219_5 : isR f217 (n + 67) (n + 5) 5 24 := by rw [h218]; exact Rq216_5.new
  have F0h218 : isO f217 (n + 67) (n + 66) 4 := by rw [h218]; exact isO.here rfl
  refine c_dup (pc := 69) (n := n + 67) (cells := 67) (slots := 612) K dX1_init_69 rfl ?_
  refine c_callN (pc := 70) (n := n + 67) (cells := 67) (slots := 612) (host := "TwoCards") K (kX4_init l F0h218 rfl) hQ.2.2.2.2 (jg_cons jw_c_X4_init) rfl rfl rfl (List.mem_cons_of_mem _ jw_n_X4) (by decide +kernel) (List.mem_cons_of_mem _ jw_i_X4_init) rfl jd_X4_init ⟨Nat.le_of_ble_eq_true rfl, Nat.le_of_ble_eq_true rfl⟩ (Nat.le_of_ble_eq_true rfl) (Nat.le_of_ble_eq_true rfl) (Nat.le_of_ble_eq_true rfl) dX1_init_70 ?_
  refine c_nm hF (fun f220 h221 hF => ?_)
  have Ch221 : h_K f217 (n + 67) (n + 66) f220 := by rw [h221]; exact wX4_init F0h218 rfl
  have Oq222 : isO f220 (n + 69) a 1 := Oq219.call Ch221 (by omega)
  have Kq222 : h_K f n a f220 := Kq219.call Ch221 (by omega) (by omega) hO.1
  have Fq222_66 : isO f220 (n + 69) (n + 66) 4 := F0h218.call Ch221 (by omega)
  have Gq222_5 : h_g f220 a 5 (1, (n + 5)) := Gq219_5.call Ch221 Oq219.1 (by have := hO.1; omega)
  have Rq222_5 : isR f220 (n + 69) (n + 5) 5 24 := Rq219_5.call Ch221 (by omega)
  refine c_aast (pc := 73) (n := n + 69) (cells := 69) (slots := 630) (C := RX4) (T := TX4) (N := 8) K 20 Rq222_5 Fq222_66 rfl rfl (by decide) (by decide) dX1_init_73 ?_
  refine c_nm hF (fun f223 h224 hF => ?_)
  have Oq225 : isO f223 (n + 69) a 1 := by rw [h224]; exact Oq222.put
  have Kq225 : h_K f n a f223 := by rw [h224]; exact Kq222.far (by omega) hO.1
  have Fq225_74 : isO f223 (n + 69) (n + 66) 4 := by rw [h224]; exact Fq222_66.put
  have Gq225_5 : h_g f223 a 5 (1, (n + 5)) := by rw [h224]; exact Gq222_5.far (by have := hO.1; omega)
  have Rq225_5 : isR f223 (n + 69) (n + 5) 5 24 := by rw [h224]; exact Rq222_5.put
  refine c_iinc (pc := 74) (n := n + 69) (cells := 69) (slots := 630) (v1 := 21) (lv' := [(1, .int 21), (0, .ref (B + a))]) K dX1_init_74 0 rfl (by decide) (by decide) rfl ?_
  refine c_goto (pc := 77) (n := n + 69) (cells := 69) (slots := 630) (tgt := 55) K dX1_init_77 (by decide) ?_
  refine c_iload_n (pc := 55) (n := n + 69) (cells := 69) (slots := 630) K dX1_init_55 0 rfl ?_
  refine c_bipush (pc := 56) (n := n + 69) (cells := 69) (slots := 630) (v := 24) K dX1_init_56 rfl ?_
  refine c_geF (pc := 58) (n := n + 69) (cells := 69) (slots := 630) (tgt := 80) K dX1_init_58 (by decide) (by decide) ?_
  refine c_aload_n (pc := 61) (n := n + 69) (cells := 69) (slots := 630) K dX1_init_61 1 rfl ?_
  refine c_get (pc := 62) (n := n + 69) (cells := 69) (slots := 630) (C := RX1) (T := TX1) (N := 9) (j := 5) K Oq225 Gq225_5 rfl rfl jn_X1 (by decide) (List.mem_cons_of_mem _ jl_X1_29) dX1_init_62 ?_
  refine c_iload_n (pc := 65) (n := n + 69) (cells := 69) (slots := 630) K dX1_init_65 0 rfl ?_
  refine c_new (pc := 66) (n := n + 69) (cells := 69) (slots := 630) (ci := 4) (C := RX4) (T := TX4) (N := 8) K [(2, 0), (2, 0), (0, 0), (0, 0), (0, 0), (0, 0), (0, 0), (0, 0)] rfl rfl jn_X4 tyX4 tyX4_ok (List.mem_cons_of_mem _ jl_X1_27) (List.mem_cons_of_mem _ jw_a_X4) (List.mem_cons_of_mem _ jw_n_X4) df_X4 (Nat.le_of_ble_eq_true rfl) (Nat.le_of_ble_eq_true rfl) dX1_init_66 ?_
  refine c_nm hF (fun f226 h227 hF => ?_)
  have Oq228 : isO f226 (n + 70) a 1 := by rw [h227]; exact Oq225.new
  have Kq228 : h_K f n a f226 := by rw [h227]; exact Kq225.new (by omega) hO.1
  have Gq228_5 : h_g f226 a 5 (1, (n + 5)) := by rw [h227]; exact Gq225_5.new (by have := hO.1; omega)
  have Rq228_5 : isR f226 (n + 70) (n + 5) 5 24 := by rw [h227]; exact Rq225_5.new
  have F0h227 : isO f226 (n + 70) (n + 69) 4 := by rw [h227]; exact isO.here rfl
  refine c_dup (pc := 69) (n := n + 70) (cells := 70) (slots := 638) K dX1_init_69 rfl ?_
  refine c_callN (pc := 70) (n := n + 70) (cells := 70) (slots := 638) (host := "TwoCards") K (kX4_init l F0h227 rfl) hQ.2.2.2.2 (jg_cons jw_c_X4_init) rfl rfl rfl (List.mem_cons_of_mem _ jw_n_X4) (by decide +kernel) (List.mem_cons_of_mem _ jw_i_X4_init) rfl jd_X4_init ⟨Nat.le_of_ble_eq_true rfl, Nat.le_of_ble_eq_true rfl⟩ (Nat.le_of_ble_eq_true rfl) (Nat.le_of_ble_eq_true rfl) (Nat.le_of_ble_eq_true rfl) dX1_init_70 ?_
  refine c_nm hF (fun f229 h230 hF => ?_)
  have Ch230 : h_K f226 (n + 70) (n + 69) f229 := by rw [h230]; exact wX4_init F0h227 rfl
  have Oq231 : isO f229 (n + 72) a 1 := Oq228.call Ch230 (by omega)
  have Kq231 : h_K f n a f229 := Kq228.call Ch230 (by omega) (by omega) hO.1
  have Fq231_69 : isO f229 (n + 72) (n + 69) 4 := F0h227.call Ch230 (by omega)
  have Gq231_5 : h_g f229 a 5 (1, (n + 5)) := Gq228_5.call Ch230 Oq228.1 (by have := hO.1; omega)
  have Rq231_5 : isR f229 (n + 72) (n + 5) 5 24 := Rq228_5.call Ch230 (by omega)
  refine c_aast (pc := 73) (n := n + 72) (cells := 72) (slots := 656) (C := RX4) (T := TX4) (N := 8) K 21 Rq231_5 Fq231_69 rfl rfl (by decide) (by decide) dX1_init_73 ?_
  refine c_nm hF (fun f232 h233 hF => ?_)
  have Oq234 : isO f232 (n + 72) a 1 := by rw [h233]; exact Oq231.put
  have Kq234 : h_K f n a f232 := by rw [h233]; exact Kq231.far (by omega) hO.1
  have Fq234_77 : isO f232 (n + 72) (n + 69) 4 := by rw [h233]; exact Fq231_69.put
  have Gq234_5 : h_g f232 a 5 (1, (n + 5)) := by rw [h233]; exact Gq231_5.far (by have := hO.1; omega)
  have Rq234_5 : isR f232 (n + 72) (n + 5) 5 24 := by rw [h233]; exact Rq231_5.put
  refine c_iinc (pc := 74) (n := n + 72) (cells := 72) (slots := 656) (v1 := 22) (lv' := [(1, .int 22), (0, .ref (B + a))]) K dX1_init_74 0 rfl (by decide) (by decide) rfl ?_
  refine c_goto (pc := 77) (n := n + 72) (cells := 72) (slots := 656) (tgt := 55) K dX1_init_77 (by decide) ?_
  refine c_iload_n (pc := 55) (n := n + 72) (cells := 72) (slots := 656) K dX1_init_55 0 rfl ?_
  refine c_bipush (pc := 56) (n := n + 72) (cells := 72) (slots := 656) (v := 24) K dX1_init_56 rfl ?_
  refine c_geF (pc := 58) (n := n + 72) (cells := 72) (slots := 656) (tgt := 80) K dX1_init_58 (by decide) (by decide) ?_
  refine c_aload_n (pc := 61) (n := n + 72) (cells := 72) (slots := 656) K dX1_init_61 1 rfl ?_
  refine c_get (pc := 62) (n := n + 72) (cells := 72) (slots := 656) (C := RX1) (T := TX1) (N := 9) (j := 5) K Oq234 Gq234_5 rfl rfl jn_X1 (by decide) (List.mem_cons_of_mem _ jl_X1_29) dX1_init_62 ?_
  refine c_iload_n (pc := 65) (n := n + 72) (cells := 72) (slots := 656) K dX1_init_65 0 rfl ?_
  refine c_new (pc := 66) (n := n + 72) (cells := 72) (slots := 656) (ci := 4) (C := RX4) (T := TX4) (N := 8) K [(2, 0), (2, 0), (0, 0), (0, 0), (0, 0), (0, 0), (0, 0), (0, 0)] rfl rfl jn_X4 tyX4 tyX4_ok (List.mem_cons_of_mem _ jl_X1_27) (List.mem_cons_of_mem _ jw_a_X4) (List.mem_cons_of_mem _ jw_n_X4) df_X4 (Nat.le_of_ble_eq_true rfl) (Nat.le_of_ble_eq_true rfl) dX1_init_66 ?_
  refine c_nm hF (fun f235 h236 hF => ?_)
  have Oq237 : isO f235 (n + 73) a 1 := by rw [h236]; exact Oq234.new
  have Kq237 : h_K f n a f235 := by rw [h236]; exact Kq234.new (by omega) hO.1
  have Gq237_5 : h_g f235 a 5 (1, (n + 5)) := by rw [h236]; exact Gq234_5.new (by have := hO.1; omega)
  have Rq237_5 : isR f235 (n + 73) (n + 5) 5 24 := by rw [h236]; exact Rq234_5.new
  have F0h236 : isO f235 (n + 73) (n + 72) 4 := by rw [h236]; exact isO.here rfl
  refine c_dup (pc := 69) (n := n + 73) (cells := 73) (slots := 664) K dX1_init_69 rfl ?_
  refine c_callN (pc := 70) (n := n + 73) (cells := 73) (slots := 664) (host := "TwoCards") K (kX4_init l F0h236 rfl) hQ.2.2.2.2 (jg_cons jw_c_X4_init) rfl rfl rfl (List.mem_cons_of_mem _ jw_n_X4) (by decide +kernel) (List.mem_cons_of_mem _ jw_i_X4_init) rfl jd_X4_init ⟨Nat.le_of_ble_eq_true rfl, Nat.le_of_ble_eq_true rfl⟩ (Nat.le_of_ble_eq_true rfl) (Nat.le_of_ble_eq_true rfl) (Nat.le_of_ble_eq_true rfl) dX1_init_70 ?_
  refine c_nm hF (fun f238 h239 hF => ?_)
  have Ch239 : h_K f235 (n + 73) (n + 72) f238 := by rw [h239]; exact wX4_init F0h236 rfl
  have Oq240 : isO f238 (n + 75) a 1 := Oq237.call Ch239 (by omega)
  have Kq240 : h_K f n a f238 := Kq237.call Ch239 (by omega) (by omega) hO.1
  have Fq240_72 : isO f238 (n + 75) (n + 72) 4 := F0h236.call Ch239 (by omega)
  have Gq240_5 : h_g f238 a 5 (1, (n + 5)) := Gq237_5.call Ch239 Oq237.1 (by have := hO.1; omega)
  have Rq240_5 : isR f238 (n + 75) (n + 5) 5 24 := Rq237_5.call Ch239 (by omega)
  refine c_aast (pc := 73) (n := n + 75) (cells := 75) (slots := 682) (C := RX4) (T := TX4) (N := 8) K 22 Rq240_5 Fq240_72 rfl rfl (by decide) (by decide) dX1_init_73 ?_
  refine c_nm hF (fun f241 h242 hF => ?_)
  have Oq243 : isO f241 (n + 75) a 1 := by rw [h242]; exact Oq240.put
  have Kq243 : h_K f n a f241 := by rw [h242]; exact Kq240.far (by omega) hO.1
  have Fq243_80 : isO f241 (n + 75) (n + 72) 4 := by rw [h242]; exact Fq240_72.put
  have Gq243_5 : h_g f241 a 5 (1, (n + 5)) := by rw [h242]; exact Gq240_5.far (by have := hO.1; omega)
  have Rq243_5 : isR f241 (n + 75) (n + 5) 5 24 := by rw [h242]; exact Rq240_5.put
  refine c_iinc (pc := 74) (n := n + 75) (cells := 75) (slots := 682) (v1 := 23) (lv' := [(1, .int 23), (0, .ref (B + a))]) K dX1_init_74 0 rfl (by decide) (by decide) rfl ?_
  refine c_goto (pc := 77) (n := n + 75) (cells := 75) (slots := 682) (tgt := 55) K dX1_init_77 (by decide) ?_
  refine c_iload_n (pc := 55) (n := n + 75) (cells := 75) (slots := 682) K dX1_init_55 0 rfl ?_
  refine c_bipush (pc := 56) (n := n + 75) (cells := 75) (slots := 682) (v := 24) K dX1_init_56 rfl ?_
  refine c_geF (pc := 58) (n := n + 75) (cells := 75) (slots := 682) (tgt := 80) K dX1_init_58 (by decide) (by decide) ?_
  refine c_aload_n (pc := 61) (n := n + 75) (cells := 75) (slots := 682) K dX1_init_61 1 rfl ?_
  refine c_get (pc := 62) (n := n + 75) (cells := 75) (slots := 682) (C := RX1) (T := TX1) (N := 9) (j := 5) K Oq243 Gq243_5 rfl rfl jn_X1 (by decide) (List.mem_cons_of_mem _ jl_X1_29) dX1_init_62 ?_
  refine c_iload_n (pc := 65) (n := n + 75) (cells := 75) (slots := 682) K dX1_init_65 0 rfl ?_
  refine c_new (pc := 66) (n := n + 75) (cells := 75) (slots := 682) (ci := 4) (C := RX4) (T := TX4) (N := 8) K [(2, 0), (2, 0), (0, 0), (0, 0), (0, 0), (0, 0), (0, 0), (0, 0)] rfl rfl jn_X4 tyX4 tyX4_ok (List.mem_cons_of_mem _ jl_X1_27) (List.mem_cons_of_mem _ jw_a_X4) (List.mem_cons_of_mem _ jw_n_X4) df_X4 (Nat.le_of_ble_eq_true rfl) (Nat.le_of_ble_eq_true rfl) dX1_init_66 ?_
  refine c_nm hF (fun f244 h245 hF => ?_)
  have Oq246 : isO f244 (n + 76) a 1 := by rw [h245]; exact Oq243.new
  have Kq246 : h_K f n a f244 := by rw [h245]; exact Kq243.new (by omega) hO.1
  have Gq246_5 : h_g f244 a 5 (1, (n + 5)) := by rw [h245]; exact Gq243_5.new (by have := hO.1; omega)
  have Rq246_5 : isR f244 (n + 76) (n + 5) 5 24 := by rw [h245]; exact Rq243_5.new
  have F0h245 : isO f244 (n + 76) (n + 75) 4 := by rw [h245]; exact isO.here rfl
  refine c_dup (pc := 69) (n := n + 76) (cells := 76) (slots := 690) K dX1_init_69 rfl ?_
  refine c_callN (pc := 70) (n := n + 76) (cells := 76) (slots := 690) (host := "TwoCards") K (kX4_init l F0h245 rfl) hQ.2.2.2.2 (jg_cons jw_c_X4_init) rfl rfl rfl (List.mem_cons_of_mem _ jw_n_X4) (by decide +kernel) (List.mem_cons_of_mem _ jw_i_X4_init) rfl jd_X4_init ⟨Nat.le_of_ble_eq_true rfl, Nat.le_of_ble_eq_true rfl⟩ (Nat.le_of_ble_eq_true rfl) (Nat.le_of_ble_eq_true rfl) (Nat.le_of_ble_eq_true rfl) dX1_init_70 ?_
  refine c_nm hF (fun f247 h248 hF => ?_)
  have Ch248 : h_K f244 (n + 76) (n + 75) f247 := by rw [h248]; exact wX4_init F0h245 rfl
  have Oq249 : isO f247 (n + 78) a 1 := Oq246.call Ch248 (by omega)
  have Kq249 : h_K f n a f247 := Kq246.call Ch248 (by omega) (by omega) hO.1
  have Fq249_75 : isO f247 (n + 78) (n + 75) 4 := F0h245.call Ch248 (by omega)
  have Gq249_5 : h_g f247 a 5 (1, (n + 5)) := Gq246_5.call Ch248 Oq246.1 (by have := hO.1; omega)
  have Rq249_5 : isR f247 (n + 78) (n + 5) 5 24 := Rq246_5.call Ch248 (by omega)
  refine c_aast (pc := 73) (n := n + 78) (cells := 78) (slots := 708) (C := RX4) (T := TX4) (N := 8) K 23 Rq249_5 Fq249_75 rfl rfl (by decide) (by decide) dX1_init_73 ?_
  refine c_nm hF (fun f250 h251 hF => ?_)
  have Oq252 : isO f250 (n + 78) a 1 := by rw [h251]; exact Oq249.put
  have Kq252 : h_K f n a f250 := by rw [h251]; exact Kq249.far (by omega) hO.1
  have Fq252_83 : isO f250 (n + 78) (n + 75) 4 := by rw [h251]; exact Fq249_75.put
  have Gq252_5 : h_g f250 a 5 (1, (n + 5)) := by rw [h251]; exact Gq249_5.far (by have := hO.1; omega)
  have Rq252_5 : isR f250 (n + 78) (n + 5) 5 24 := by rw [h251]; exact Rq249_5.put
  refine c_iinc (pc := 74) (n := n + 78) (cells := 78) (slots := 708) (v1 := 24) (lv' := [(1, .int 24), (0, .ref (B + a))]) K dX1_init_74 0 rfl (by decide) (by decide) rfl ?_
  refine c_goto (pc := 77) (n := n + 78) (cells := 78) (slots := 708) (tgt := 55) K dX1_init_77 (by decide) ?_
  refine c_iload_n (pc := 55) (n := n + 78) (cells := 78) (slots := 708) K dX1_init_55 0 rfl ?_
  refine c_bipush (pc := 56) (n := n + 78) (cells := 78) (slots := 708) (v := 24) K dX1_init_56 rfl ?_
  refine c_geT (pc := 58) (n := n + 78) (cells := 78) (slots := 708) (tgt := 80) K dX1_init_58 (by decide) (by decide) ?_
  subst hF
  exact c_ret (pc := 80) K hQ dX1_init_80
