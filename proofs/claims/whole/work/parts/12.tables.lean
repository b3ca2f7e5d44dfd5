/-! ===== the words of the classes among the tables' ===== -/
theorem zmem {w : Cond} (i : Nat) (h : lw_tbl[i]? = some w) (g : goodWord w = true) : w ∈ zws := List.mem_filter.mpr ⟨List.mem_of_getElem? h, g⟩
theorem zin_of {ws : List Cond} (ps : List Nat) (hp : ws = ps.filterMap (fun i => lw_tbl[i]?)) (h : ws.all goodWord = true) : ∀ w ∈ ws, w ∈ zws := by
  intro w hw
  have h1 := List.all_eq_true.mp h w hw
  rw [hp] at hw
  obtain ⟨i, -, hi⟩ := List.mem_filterMap.mp hw
  exact zmem i hi h1
set_option maxRecDepth 20000 in
theorem zin0 : ∀ w ∈ u_ws RX0 TX0 2, w ∈ zws := zin_of [268, 270] (by decide +kernel) (by decide +kernel)
set_option maxRecDepth 20000 in
theorem zin1 : ∀ w ∈ u_ws RX1 TX1 3, w ∈ zws := zin_of [315, 317, 319] (by decide +kernel) (by decide +kernel)
set_option maxRecDepth 20000 in
theorem zin2 : ∀ w ∈ u_ws RX2 TX2 12, w ∈ zws := zin_of [123, 125, 127, 129, 131, 133, 135, 137, 139, 141, 143, 145] (by decide +kernel) (by decide +kernel)
set_option maxRecDepth 20000 in
theorem zin3 : ∀ w ∈ u_ws RX3 TX3 4, w ∈ zws := zin_of [333, 335, 337, 339] (by decide +kernel) (by decide +kernel)
set_option maxRecDepth 20000 in
theorem zin4 : ∀ w ∈ u_ws RX4 TX4 6, w ∈ zws := zin_of [246, 248, 250, 252, 254, 256] (by decide +kernel) (by decide +kernel)
set_option maxRecDepth 20000 in
theorem zin5 : ∀ w ∈ u_ws RX5 TX5 8, w ∈ zws := zin_of [169, 171, 173, 175, 177, 179, 181, 183] (by decide +kernel) (by decide +kernel)
set_option maxRecDepth 20000 in
theorem zin6 : ∀ w ∈ u_ws RX6 TX6 11, w ∈ zws := zin_of [208, 210, 212, 214, 216, 218, 220, 222, 224, 226, 228] (by decide +kernel) (by decide +kernel)
set_option maxRecDepth 20000 in
theorem zin7 : ∀ w ∈ u_ws RX7 TX7 4, w ∈ zws := zin_of [293, 295, 297, 299] (by decide +kernel) (by decide +kernel)
set_option maxRecDepth 20000 in
theorem zin8 : ∀ w ∈ u_ws RX8 TX8 16, w ∈ zws := zin_of [358, 360, 362, 364, 366, 368, 370, 372, 374, 376, 378, 380, 382, 384, 386, 388] (by decide +kernel) (by decide +kernel)
set_option maxRecDepth 20000 in
theorem zin9 : ∀ w ∈ u_ws RX9 TX9 42, w ∈ zws := zin_of [863, 865, 867, 869, 871, 873, 875, 877, 879, 881, 883, 885, 887, 889, 891, 893, 895, 897, 899, 901, 903, 905, 907, 909, 911, 913, 915, 917, 919, 921, 923, 925, 927, 929, 931, 933, 935, 937, 939, 941, 943, 945] (by decide +kernel) (by decide +kernel)
theorem zcl_cases {Pq : Nat → vw_C → Prop} (h0 : Pq 0 (RX0, TX0, 2)) (h1 : Pq 1 (RX1, TX1, 3)) (h2 : Pq 2 (RX2, TX2, 12)) (h3 : Pq 3 (RX3, TX3, 4)) (h4 : Pq 4 (RX4, TX4, 6)) (h5 : Pq 5 (RX5, TX5, 8)) (h6 : Pq 6 (RX6, TX6, 11)) (h7 : Pq 7 (RX7, TX7, 4)) (h8 : Pq 8 (RX8, TX8, 16)) (h9 : Pq 9 (RX9, TX9, 42)) : ∀ (ci : Nat) (q : vw_C), zCl[ci]? = some q → Pq ci q := by
  intro ci q h
  match ci, h with
  | 0, h => cases h; exact h0
  | 1, h => cases h; exact h1
  | 2, h => cases h; exact h2
  | 3, h => cases h; exact h3
  | 4, h => cases h; exact h4
  | 5, h => cases h; exact h5
  | 6, h => cases h; exact h6
  | 7, h => cases h; exact h7
  | 8, h => cases h; exact h8
  | 9, h => cases h; exact h9
  | n + 10, h => simp [zCl] at h
theorem zcl_in : ∀ (ci : Nat) (q : vw_C), zCl[ci]? = some q → ∀ w ∈ u_ws q.1 q.2.1 q.2.2, w ∈ zws := zcl_cases (Pq := fun _ q => ∀ w ∈ u_ws q.1 q.2.1 q.2.2, w ∈ zws) zin0 zin1 zin2 zin3 zin4 zin5 zin6 zin7 zin8 zin9
theorem zcl_ty : ∀ (ci : Nat) (q : vw_C), zCl[ci]? = some q → ∃ ty0 : Nat → FieldType, ∀ k, k < q.2.2 → parseFieldDescriptor (q.2.1 k).2.2.1 = some (ty0 k) := zcl_cases (Pq := fun _ q => ∃ ty0 : Nat → FieldType, ∀ k, k < q.2.2 → parseFieldDescriptor (q.2.1 k).2.2.1 = some (ty0 k)) ⟨tyX0, tyX0_ok⟩ ⟨tyX1, tyX1_ok⟩ ⟨tyX2, tyX2_ok⟩ ⟨tyX3, tyX3_ok⟩ ⟨tyX4, tyX4_ok⟩ ⟨tyX5, tyX5_ok⟩ ⟨tyX6, tyX6_ok⟩ ⟨tyX7, tyX7_ok⟩ ⟨tyX8, tyX8_ok⟩ ⟨tyX9, tyX9_ok⟩
theorem zcl_nm : ∀ (ci : Nat) (q : vw_C), zCl[ci]? = some q → ∀ a, a < q.2.2 → ∀ b, b < q.2.2 → a ≠ b → (q.2.1 a).2.1 ≠ (q.2.1 b).2.1 := zcl_cases (Pq := fun _ q => ∀ a, a < q.2.2 → ∀ b, b < q.2.2 → a ≠ b → (q.2.1 a).2.1 ≠ (q.2.1 b).2.1) nmX0 nmX1 nmX2 nmX3 nmX4 nmX5 nmX6 nmX7 nmX8 nmX9
theorem zcl_len : ∀ (ci : Nat) (q : vw_C), zCl[ci]? = some q → (zfl ci).length = q.2.2 ∧ ci < 10 := zcl_cases (Pq := fun ci q => (zfl ci).length = q.2.2 ∧ ci < 10) ⟨rfl, by decide⟩ ⟨rfl, by decide⟩ ⟨rfl, by decide⟩ ⟨rfl, by decide⟩ ⟨rfl, by decide⟩ ⟨rfl, by decide⟩ ⟨rfl, by decide⟩ ⟨rfl, by decide⟩ ⟨rfl, by decide⟩ ⟨rfl, by decide⟩
