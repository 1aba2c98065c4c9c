theorem ft_0_0 : zw_ft 0 0 = 1 := by decide +kernel
theorem ft_0_1 : zw_ft 0 1 = 0 := by decide +kernel
theorem df_0 : ∀ k, k < 2 → defaultValue (tyAi k) = zw_dv (zw_ft 0 k) := by
  intro k hk
  match k, hk with
  | 0, _ => rw [ft_0_0]; rfl
  | 1, _ => rw [ft_0_1]; rfl
  | k + 2, h => exact absurd h (by omega)
theorem ft_1_0 : zw_ft 1 0 = 1 := by decide +kernel
theorem ft_1_1 : zw_ft 1 1 = 2 := by decide +kernel
theorem ft_1_2 : zw_ft 1 2 = 0 := by decide +kernel
theorem df_1 : ∀ k, k < 3 → defaultValue (tyHd k) = zw_dv (zw_ft 1 k) := by
  intro k hk
  match k, hk with
  | 0, _ => rw [ft_1_0]; rfl
  | 1, _ => rw [ft_1_1]; rfl
  | 2, _ => rw [ft_1_2]; rfl
  | k + 3, h => exact absurd h (by omega)
theorem ft_2_0 : zw_ft 2 0 = 0 := by decide +kernel
theorem ft_2_1 : zw_ft 2 1 = 0 := by decide +kernel
theorem ft_2_2 : zw_ft 2 2 = 0 := by decide +kernel
theorem ft_2_3 : zw_ft 2 3 = 0 := by decide +kernel
theorem ft_2_4 : zw_ft 2 4 = 0 := by decide +kernel
theorem ft_2_5 : zw_ft 2 5 = 0 := by decide +kernel
theorem ft_2_6 : zw_ft 2 6 = 0 := by decide +kernel
theorem ft_2_7 : zw_ft 2 7 = 0 := by decide +kernel
theorem ft_2_8 : zw_ft 2 8 = 0 := by decide +kernel
theorem ft_2_9 : zw_ft 2 9 = 0 := by decide +kernel
theorem ft_2_10 : zw_ft 2 10 = 0 := by decide +kernel
theorem df_2 : ∀ k, k < 11 → defaultValue (tyId k) = zw_dv (zw_ft 2 k) := by
  intro k hk
  match k, hk with
  | 0, _ => rw [ft_2_0]; rfl
  | 1, _ => rw [ft_2_1]; rfl
  | 2, _ => rw [ft_2_2]; rfl
  | 3, _ => rw [ft_2_3]; rfl
  | 4, _ => rw [ft_2_4]; rfl
  | 5, _ => rw [ft_2_5]; rfl
  | 6, _ => rw [ft_2_6]; rfl
  | 7, _ => rw [ft_2_7]; rfl
  | 8, _ => rw [ft_2_8]; rfl
  | 9, _ => rw [ft_2_9]; rfl
  | 10, _ => rw [ft_2_10]; rfl
  | k + 11, h => exact absurd h (by omega)
theorem ft_3_0 : zw_ft 3 0 = 1 := by decide +kernel
theorem ft_3_1 : zw_ft 3 1 = 0 := by decide +kernel
theorem df_3 : ∀ k, k < 2 → defaultValue (tyLy k) = zw_dv (zw_ft 3 k) := by
  intro k hk
  match k, hk with
  | 0, _ => rw [ft_3_0]; rfl
  | 1, _ => rw [ft_3_1]; rfl
  | k + 2, h => exact absurd h (by omega)
theorem ft_4_0 : zw_ft 4 0 = 1 := by decide +kernel
theorem ft_4_1 : zw_ft 4 1 = 1 := by decide +kernel
theorem ft_4_2 : zw_ft 4 2 = 0 := by decide +kernel
theorem ft_4_3 : zw_ft 4 3 = 1 := by decide +kernel
theorem ft_4_4 : zw_ft 4 4 = 1 := by decide +kernel
theorem ft_4_5 : zw_ft 4 5 = 0 := by decide +kernel
theorem ft_4_6 : zw_ft 4 6 = 0 := by decide +kernel
theorem ft_4_7 : zw_ft 4 7 = 0 := by decide +kernel
theorem df_4 : ∀ k, k < 8 → defaultValue (tyLs k) = zw_dv (zw_ft 4 k) := by
  intro k hk
  match k, hk with
  | 0, _ => rw [ft_4_0]; rfl
  | 1, _ => rw [ft_4_1]; rfl
  | 2, _ => rw [ft_4_2]; rfl
  | 3, _ => rw [ft_4_3]; rfl
  | 4, _ => rw [ft_4_4]; rfl
  | 5, _ => rw [ft_4_5]; rfl
  | 6, _ => rw [ft_4_6]; rfl
  | 7, _ => rw [ft_4_7]; rfl
  | k + 8, h => exact absurd h (by omega)
theorem ft_5_0 : zw_ft 5 0 = 1 := by decide +kernel
theorem ft_5_1 : zw_ft 5 1 = 0 := by decide +kernel
theorem ft_5_2 : zw_ft 5 2 = 0 := by decide +kernel
theorem ft_5_3 : zw_ft 5 3 = 1 := by decide +kernel
theorem ft_5_4 : zw_ft 5 4 = 1 := by decide +kernel
theorem ft_5_5 : zw_ft 5 5 = 0 := by decide +kernel
theorem df_5 : ∀ k, k < 6 → defaultValue (tyMs k) = zw_dv (zw_ft 5 k) := by
  intro k hk
  match k, hk with
  | 0, _ => rw [ft_5_0]; rfl
  | 1, _ => rw [ft_5_1]; rfl
  | 2, _ => rw [ft_5_2]; rfl
  | 3, _ => rw [ft_5_3]; rfl
  | 4, _ => rw [ft_5_4]; rfl
  | 5, _ => rw [ft_5_5]; rfl
  | k + 6, h => exact absurd h (by omega)
theorem ft_6_0 : zw_ft 6 0 = 1 := by decide +kernel
theorem ft_6_1 : zw_ft 6 1 = 0 := by decide +kernel
theorem ft_6_2 : zw_ft 6 2 = 1 := by decide +kernel
theorem ft_6_3 : zw_ft 6 3 = 0 := by decide +kernel
theorem ft_6_4 : zw_ft 6 4 = 0 := by decide +kernel
theorem ft_6_5 : zw_ft 6 5 = 0 := by decide +kernel
theorem ft_6_6 : zw_ft 6 6 = 0 := by decide +kernel
theorem ft_6_7 : zw_ft 6 7 = 0 := by decide +kernel
theorem ft_6_8 : zw_ft 6 8 = 0 := by decide +kernel
theorem df_6 : ∀ k, k < 9 → defaultValue (tyPg k) = zw_dv (zw_ft 6 k) := by
  intro k hk
  match k, hk with
  | 0, _ => rw [ft_6_0]; rfl
  | 1, _ => rw [ft_6_1]; rfl
  | 2, _ => rw [ft_6_2]; rfl
  | 3, _ => rw [ft_6_3]; rfl
  | 4, _ => rw [ft_6_4]; rfl
  | 5, _ => rw [ft_6_5]; rfl
  | 6, _ => rw [ft_6_6]; rfl
  | 7, _ => rw [ft_6_7]; rfl
  | 8, _ => rw [ft_6_8]; rfl
  | k + 9, h => exact absurd h (by omega)
theorem ft_7_0 : zw_ft 7 0 = 0 := by decide +kernel
theorem ft_7_1 : zw_ft 7 1 = 0 := by decide +kernel
theorem ft_7_2 : zw_ft 7 2 = 0 := by decide +kernel
theorem ft_7_3 : zw_ft 7 3 = 1 := by decide +kernel
theorem ft_7_4 : zw_ft 7 4 = 0 := by decide +kernel
theorem df_7 : ∀ k, k < 5 → defaultValue (tySd k) = zw_dv (zw_ft 7 k) := by
  intro k hk
  match k, hk with
  | 0, _ => rw [ft_7_0]; rfl
  | 1, _ => rw [ft_7_1]; rfl
  | 2, _ => rw [ft_7_2]; rfl
  | 3, _ => rw [ft_7_3]; rfl
  | 4, _ => rw [ft_7_4]; rfl
  | k + 5, h => exact absurd h (by omega)
theorem ft_8_0 : zw_ft 8 0 = 1 := by decide +kernel
theorem ft_8_1 : zw_ft 8 1 = 0 := by decide +kernel
theorem ft_8_2 : zw_ft 8 2 = 1 := by decide +kernel
theorem ft_8_3 : zw_ft 8 3 = 0 := by decide +kernel
theorem ft_8_4 : zw_ft 8 4 = 1 := by decide +kernel
theorem ft_8_5 : zw_ft 8 5 = 0 := by decide +kernel
theorem ft_8_6 : zw_ft 8 6 = 0 := by decide +kernel
theorem ft_8_7 : zw_ft 8 7 = 1 := by decide +kernel
theorem ft_8_8 : zw_ft 8 8 = 0 := by decide +kernel
theorem ft_8_9 : zw_ft 8 9 = 1 := by decide +kernel
theorem ft_8_10 : zw_ft 8 10 = 1 := by decide +kernel
theorem ft_8_11 : zw_ft 8 11 = 1 := by decide +kernel
theorem df_8 : ∀ k, k < 12 → defaultValue (tyWP k) = zw_dv (zw_ft 8 k) := by
  intro k hk
  match k, hk with
  | 0, _ => rw [ft_8_0]; rfl
  | 1, _ => rw [ft_8_1]; rfl
  | 2, _ => rw [ft_8_2]; rfl
  | 3, _ => rw [ft_8_3]; rfl
  | 4, _ => rw [ft_8_4]; rfl
  | 5, _ => rw [ft_8_5]; rfl
  | 6, _ => rw [ft_8_6]; rfl
  | 7, _ => rw [ft_8_7]; rfl
  | 8, _ => rw [ft_8_8]; rfl
  | 9, _ => rw [ft_8_9]; rfl
  | 10, _ => rw [ft_8_10]; rfl
  | 11, _ => rw [ft_8_11]; rfl
  | k + 12, h => exact absurd h (by omega)
theorem ft_9_0 : zw_ft 9 0 = 0 := by decide +kernel
theorem ft_9_1 : zw_ft 9 1 = 1 := by decide +kernel
theorem ft_9_2 : zw_ft 9 2 = 1 := by decide +kernel
theorem ft_9_3 : zw_ft 9 3 = 1 := by decide +kernel
theorem ft_9_4 : zw_ft 9 4 = 0 := by decide +kernel
theorem ft_9_5 : zw_ft 9 5 = 1 := by decide +kernel
theorem ft_9_6 : zw_ft 9 6 = 1 := by decide +kernel
theorem ft_9_7 : zw_ft 9 7 = 1 := by decide +kernel
theorem ft_9_8 : zw_ft 9 8 = 1 := by decide +kernel
theorem ft_9_9 : zw_ft 9 9 = 1 := by decide +kernel
theorem ft_9_10 : zw_ft 9 10 = 1 := by decide +kernel
theorem ft_9_11 : zw_ft 9 11 = 1 := by decide +kernel
theorem ft_9_12 : zw_ft 9 12 = 0 := by decide +kernel
theorem ft_9_13 : zw_ft 9 13 = 1 := by decide +kernel
theorem ft_9_14 : zw_ft 9 14 = 1 := by decide +kernel
theorem ft_9_15 : zw_ft 9 15 = 1 := by decide +kernel
theorem ft_9_16 : zw_ft 9 16 = 0 := by decide +kernel
theorem ft_9_17 : zw_ft 9 17 = 0 := by decide +kernel
theorem ft_9_18 : zw_ft 9 18 = 0 := by decide +kernel
theorem ft_9_19 : zw_ft 9 19 = 0 := by decide +kernel
theorem ft_9_20 : zw_ft 9 20 = 1 := by decide +kernel
theorem ft_9_21 : zw_ft 9 21 = 1 := by decide +kernel
theorem ft_9_22 : zw_ft 9 22 = 1 := by decide +kernel
theorem ft_9_23 : zw_ft 9 23 = 1 := by decide +kernel
theorem ft_9_24 : zw_ft 9 24 = 1 := by decide +kernel
theorem ft_9_25 : zw_ft 9 25 = 1 := by decide +kernel
theorem ft_9_26 : zw_ft 9 26 = 1 := by decide +kernel
theorem ft_9_27 : zw_ft 9 27 = 1 := by decide +kernel
theorem ft_9_28 : zw_ft 9 28 = 1 := by decide +kernel
theorem ft_9_29 : zw_ft 9 29 = 1 := by decide +kernel
theorem ft_9_30 : zw_ft 9 30 = 1 := by decide +kernel
theorem ft_9_31 : zw_ft 9 31 = 0 := by decide +kernel
theorem ft_9_32 : zw_ft 9 32 = 0 := by decide +kernel
theorem ft_9_33 : zw_ft 9 33 = 1 := by decide +kernel
theorem ft_9_34 : zw_ft 9 34 = 0 := by decide +kernel
theorem ft_9_35 : zw_ft 9 35 = 0 := by decide +kernel
theorem ft_9_36 : zw_ft 9 36 = 1 := by decide +kernel
theorem df_9 : ∀ k, k < 37 → defaultValue (tyMo k) = zw_dv (zw_ft 9 k) := by
  intro k hk
  match k, hk with
  | 0, _ => rw [ft_9_0]; rfl
  | 1, _ => rw [ft_9_1]; rfl
  | 2, _ => rw [ft_9_2]; rfl
  | 3, _ => rw [ft_9_3]; rfl
  | 4, _ => rw [ft_9_4]; rfl
  | 5, _ => rw [ft_9_5]; rfl
  | 6, _ => rw [ft_9_6]; rfl
  | 7, _ => rw [ft_9_7]; rfl
  | 8, _ => rw [ft_9_8]; rfl
  | 9, _ => rw [ft_9_9]; rfl
  | 10, _ => rw [ft_9_10]; rfl
  | 11, _ => rw [ft_9_11]; rfl
  | 12, _ => rw [ft_9_12]; rfl
  | 13, _ => rw [ft_9_13]; rfl
  | 14, _ => rw [ft_9_14]; rfl
  | 15, _ => rw [ft_9_15]; rfl
  | 16, _ => rw [ft_9_16]; rfl
  | 17, _ => rw [ft_9_17]; rfl
  | 18, _ => rw [ft_9_18]; rfl
  | 19, _ => rw [ft_9_19]; rfl
  | 20, _ => rw [ft_9_20]; rfl
  | 21, _ => rw [ft_9_21]; rfl
  | 22, _ => rw [ft_9_22]; rfl
  | 23, _ => rw [ft_9_23]; rfl
  | 24, _ => rw [ft_9_24]; rfl
  | 25, _ => rw [ft_9_25]; rfl
  | 26, _ => rw [ft_9_26]; rfl
  | 27, _ => rw [ft_9_27]; rfl
  | 28, _ => rw [ft_9_28]; rfl
  | 29, _ => rw [ft_9_29]; rfl
  | 30, _ => rw [ft_9_30]; rfl
  | 31, _ => rw [ft_9_31]; rfl
  | 32, _ => rw [ft_9_32]; rfl
  | 33, _ => rw [ft_9_33]; rfl
  | 34, _ => rw [ft_9_34]; rfl
  | 35, _ => rw [ft_9_35]; rfl
  | 36, _ => rw [ft_9_36]; rfl
  | k + 37, h => exact absurd h (by omega)
theorem hd_WP_init : yWP_init.cls ≠ "java/lang/invoke/MethodHandle" ∧ yWP_init.cls ≠ "java/lang/invoke/VarHandle" ∧ (parseMethodDescriptor yWP_init.desc).map (fun d => d.parameters.length) = some 0 := by decide +kernel
def wsWP_init : List Cond := Cond.code yWP_init cWP_init 1 (none) :: zT
theorem hd_WP_areLoadedSignsOf : yWP_areLoadedSignsOf.cls ≠ "java/lang/invoke/MethodHandle" ∧ yWP_areLoadedSignsOf.cls ≠ "java/lang/invoke/VarHandle" ∧ (parseMethodDescriptor yWP_areLoadedSignsOf.desc).map (fun d => d.parameters.length) = some 1 := by decide +kernel
def wsWP_areLoadedSignsOf : List Cond := Cond.code yWP_areLoadedSignsOf cWP_areLoadedSignsOf 3 (some .boolean) :: zT
theorem hd_WP_bit : yWP_bit.cls ≠ "java/lang/invoke/MethodHandle" ∧ yWP_bit.cls ≠ "java/lang/invoke/VarHandle" ∧ (parseMethodDescriptor yWP_bit.desc).map (fun d => d.parameters.length) = some 1 := by decide +kernel
def wsWP_bit : List Cond := Cond.code yWP_bit cWP_bit 2 (some .int) :: zT
theorem hd_WP_byteOf : yWP_byteOf.cls ≠ "java/lang/invoke/MethodHandle" ∧ yWP_byteOf.cls ≠ "java/lang/invoke/VarHandle" ∧ (parseMethodDescriptor yWP_byteOf.desc).map (fun d => d.parameters.length) = some 2 := by decide +kernel
def wsWP_byteOf : List Cond := Cond.code yWP_byteOf cWP_byteOf 3 (some .int) :: zT
theorem hd_WP_call : yWP_call.cls ≠ "java/lang/invoke/MethodHandle" ∧ yWP_call.cls ≠ "java/lang/invoke/VarHandle" ∧ (parseMethodDescriptor yWP_call.desc).map (fun d => d.parameters.length) = some 2 := by decide +kernel
def wsWP_call : List Cond := Cond.code yWP_call cWP_call 5 (some .int) :: zT
theorem hd_WP_code : yWP_code.cls ≠ "java/lang/invoke/MethodHandle" ∧ yWP_code.cls ≠ "java/lang/invoke/VarHandle" ∧ (parseMethodDescriptor yWP_code.desc).map (fun d => d.parameters.length) = some 1 := by decide +kernel
def wsWP_code : List Cond := Cond.code yWP_code cWP_code 2 (some .int) :: zT
theorem hd_WP_codewordOf : yWP_codewordOf.cls ≠ "java/lang/invoke/MethodHandle" ∧ yWP_codewordOf.cls ≠ "java/lang/invoke/VarHandle" ∧ (parseMethodDescriptor yWP_codewordOf.desc).map (fun d => d.parameters.length) = some 1 := by decide +kernel
def wsWP_codewordOf : List Cond := Cond.code yWP_codewordOf cWP_codewordOf 3 (some .int) :: zT
theorem hd_WP_count : yWP_count.cls ≠ "java/lang/invoke/MethodHandle" ∧ yWP_count.cls ≠ "java/lang/invoke/VarHandle" ∧ (parseMethodDescriptor yWP_count.desc).map (fun d => d.parameters.length) = some 2 := by decide +kernel
def wsWP_count : List Cond := Cond.code yWP_count cWP_count 4 (some .int) :: zT
theorem hd_WP_desk : yWP_desk.cls ≠ "java/lang/invoke/MethodHandle" ∧ yWP_desk.cls ≠ "java/lang/invoke/VarHandle" ∧ (parseMethodDescriptor yWP_desk.desc).map (fun d => d.parameters.length) = some 3 := by decide +kernel
def wsWP_desk : List Cond := Cond.code yWP_desk cWP_desk 7 (some .int) :: zT
theorem hd_WP_flip : yWP_flip.cls ≠ "java/lang/invoke/MethodHandle" ∧ yWP_flip.cls ≠ "java/lang/invoke/VarHandle" ∧ (parseMethodDescriptor yWP_flip.desc).map (fun d => d.parameters.length) = some 1 := by decide +kernel
def wsWP_flip : List Cond := Cond.code yWP_flip cWP_flip 2 (some .int) :: zT
theorem hd_WP_hear : yWP_hear.cls ≠ "java/lang/invoke/MethodHandle" ∧ yWP_hear.cls ≠ "java/lang/invoke/VarHandle" ∧ (parseMethodDescriptor yWP_hear.desc).map (fun d => d.parameters.length) = some 2 := by decide +kernel
def wsWP_hear : List Cond := Cond.code yWP_hear cWP_hear 4 (some .int) :: zT
theorem hd_WP_identity : yWP_identity.cls ≠ "java/lang/invoke/MethodHandle" ∧ yWP_identity.cls ≠ "java/lang/invoke/VarHandle" ∧ (parseMethodDescriptor yWP_identity.desc).map (fun d => d.parameters.length) = some 2 := by decide +kernel
def wsWP_identity : List Cond := Cond.code yWP_identity cWP_identity 3 (some .int) :: zT
theorem hd_WP_identityAt : yWP_identityAt.cls ≠ "java/lang/invoke/MethodHandle" ∧ yWP_identityAt.cls ≠ "java/lang/invoke/VarHandle" ∧ (parseMethodDescriptor yWP_identityAt.desc).map (fun d => d.parameters.length) = some 1 := by decide +kernel
def wsWP_identityAt : List Cond := Cond.code yWP_identityAt cWP_identityAt 2 (some (.object "WakingPagers$Identity")) :: zT
theorem hd_WP_isAddressUsed : yWP_isAddressUsed.cls ≠ "java/lang/invoke/MethodHandle" ∧ yWP_isAddressUsed.cls ≠ "java/lang/invoke/VarHandle" ∧ (parseMethodDescriptor yWP_isAddressUsed.desc).map (fun d => d.parameters.length) = some 1 := by decide +kernel
def wsWP_isAddressUsed : List Cond := Cond.code yWP_isAddressUsed cWP_isAddressUsed 3 (some .boolean) :: zT
theorem hd_WP_isSync : yWP_isSync.cls ≠ "java/lang/invoke/MethodHandle" ∧ yWP_isSync.cls ≠ "java/lang/invoke/VarHandle" ∧ (parseMethodDescriptor yWP_isSync.desc).map (fun d => d.parameters.length) = some 1 := by decide +kernel
def wsWP_isSync : List Cond := Cond.code yWP_isSync cWP_isSync 1 (some .boolean) :: zT
theorem hd_WP_join : yWP_join.cls ≠ "java/lang/invoke/MethodHandle" ∧ yWP_join.cls ≠ "java/lang/invoke/VarHandle" ∧ (parseMethodDescriptor yWP_join.desc).map (fun d => d.parameters.length) = some 2 := by decide +kernel
def wsWP_join : List Cond := Cond.code yWP_join cWP_join 5 (some .int) :: zT
theorem hd_WP_kept : yWP_kept.cls ≠ "java/lang/invoke/MethodHandle" ∧ yWP_kept.cls ≠ "java/lang/invoke/VarHandle" ∧ (parseMethodDescriptor yWP_kept.desc).map (fun d => d.parameters.length) = some 1 := by decide +kernel
def wsWP_kept : List Cond := Cond.code yWP_kept cWP_kept 3 (some .int) :: zT
theorem hd_WP_layMessages : yWP_layMessages.cls ≠ "java/lang/invoke/MethodHandle" ∧ yWP_layMessages.cls ≠ "java/lang/invoke/VarHandle" ∧ (parseMethodDescriptor yWP_layMessages.desc).map (fun d => d.parameters.length) = some 1 := by decide +kernel
def wsWP_layMessages : List Cond := Cond.code yWP_layMessages cWP_layMessages 5 (none) :: zT
theorem hd_WP_load : yWP_load.cls ≠ "java/lang/invoke/MethodHandle" ∧ yWP_load.cls ≠ "java/lang/invoke/VarHandle" ∧ (parseMethodDescriptor yWP_load.desc).map (fun d => d.parameters.length) = some 2 := by decide +kernel
def wsWP_load : List Cond := Cond.code yWP_load cWP_load 5 (some .int) :: zT
theorem hd_WP_message : yWP_message.cls ≠ "java/lang/invoke/MethodHandle" ∧ yWP_message.cls ≠ "java/lang/invoke/VarHandle" ∧ (parseMethodDescriptor yWP_message.desc).map (fun d => d.parameters.length) = some 3 := by decide +kernel
def wsWP_message : List Cond := Cond.code yWP_message cWP_message 5 (some .int) :: zT
theorem hd_WP_missed : yWP_missed.cls ≠ "java/lang/invoke/MethodHandle" ∧ yWP_missed.cls ≠ "java/lang/invoke/VarHandle" ∧ (parseMethodDescriptor yWP_missed.desc).map (fun d => d.parameters.length) = some 2 := by decide +kernel
def wsWP_missed : List Cond := Cond.code yWP_missed cWP_missed 5 (some .long) :: zT
theorem hd_WP_pager : yWP_pager.cls ≠ "java/lang/invoke/MethodHandle" ∧ yWP_pager.cls ≠ "java/lang/invoke/VarHandle" ∧ (parseMethodDescriptor yWP_pager.desc).map (fun d => d.parameters.length) = some 0 := by decide +kernel
def wsWP_pager : List Cond := Cond.code yWP_pager cWP_pager 1 (some .int) :: zT
theorem hd_WP_pagerAt : yWP_pagerAt.cls ≠ "java/lang/invoke/MethodHandle" ∧ yWP_pagerAt.cls ≠ "java/lang/invoke/VarHandle" ∧ (parseMethodDescriptor yWP_pagerAt.desc).map (fun d => d.parameters.length) = some 1 := by decide +kernel
def wsWP_pagerAt : List Cond := Cond.code yWP_pagerAt cWP_pagerAt 2 (some (.object "WakingPagers$Pager")) :: zT
theorem hd_WP_repair : yWP_repair.cls ≠ "java/lang/invoke/MethodHandle" ∧ yWP_repair.cls ≠ "java/lang/invoke/VarHandle" ∧ (parseMethodDescriptor yWP_repair.desc).map (fun d => d.parameters.length) = some 1 := by decide +kernel
def wsWP_repair : List Cond := Cond.code yWP_repair cWP_repair 3 (some .int) :: zT
theorem hd_WP_sign : yWP_sign.cls ≠ "java/lang/invoke/MethodHandle" ∧ yWP_sign.cls ≠ "java/lang/invoke/VarHandle" ∧ (parseMethodDescriptor yWP_sign.desc).map (fun d => d.parameters.length) = some 3 := by decide +kernel
def wsWP_sign : List Cond := Cond.code yWP_sign cWP_sign 5 (some .int) :: zT
theorem hd_WP_storedAt : yWP_storedAt.cls ≠ "java/lang/invoke/MethodHandle" ∧ yWP_storedAt.cls ≠ "java/lang/invoke/VarHandle" ∧ (parseMethodDescriptor yWP_storedAt.desc).map (fun d => d.parameters.length) = some 2 := by decide +kernel
def wsWP_storedAt : List Cond := Cond.code yWP_storedAt cWP_storedAt 4 (some (.object "WakingPagers$Stored")) :: zT
theorem hd_WP_transmit : yWP_transmit.cls ≠ "java/lang/invoke/MethodHandle" ∧ yWP_transmit.cls ≠ "java/lang/invoke/VarHandle" ∧ (parseMethodDescriptor yWP_transmit.desc).map (fun d => d.parameters.length) = some 1 := by decide +kernel
def wsWP_transmit : List Cond := Cond.code yWP_transmit cWP_transmit 2 (some .int) :: zT
theorem hd_WP_unload : yWP_unload.cls ≠ "java/lang/invoke/MethodHandle" ∧ yWP_unload.cls ≠ "java/lang/invoke/VarHandle" ∧ (parseMethodDescriptor yWP_unload.desc).map (fun d => d.parameters.length) = some 0 := by decide +kernel
def wsWP_unload : List Cond := Cond.code yWP_unload cWP_unload 2 (some .int) :: zT
theorem hd_WP_waiting : yWP_waiting.cls ≠ "java/lang/invoke/MethodHandle" ∧ yWP_waiting.cls ≠ "java/lang/invoke/VarHandle" ∧ (parseMethodDescriptor yWP_waiting.desc).map (fun d => d.parameters.length) = some 0 := by decide +kernel
def wsWP_waiting : List Cond := Cond.code yWP_waiting cWP_waiting 1 (some .int) :: zT
theorem hd_Ai_init : yAi_init.cls ≠ "java/lang/invoke/MethodHandle" ∧ yAi_init.cls ≠ "java/lang/invoke/VarHandle" ∧ (parseMethodDescriptor yAi_init.desc).map (fun d => d.parameters.length) = some 0 := by decide +kernel
def wsAi_init : List Cond := Cond.code yAi_init cAi_init 1 (none) :: zT
theorem hd_Ai_bitAt : yAi_bitAt.cls ≠ "java/lang/invoke/MethodHandle" ∧ yAi_bitAt.cls ≠ "java/lang/invoke/VarHandle" ∧ (parseMethodDescriptor yAi_bitAt.desc).map (fun d => d.parameters.length) = some 1 := by decide +kernel
def wsAi_bitAt : List Cond := Cond.code yAi_bitAt cAi_bitAt 2 (some .int) :: zT
theorem hd_Ai_changeBit : yAi_changeBit.cls ≠ "java/lang/invoke/MethodHandle" ∧ yAi_changeBit.cls ≠ "java/lang/invoke/VarHandle" ∧ (parseMethodDescriptor yAi_changeBit.desc).map (fun d => d.parameters.length) = some 1 := by decide +kernel
def wsAi_changeBit : List Cond := Cond.code yAi_changeBit cAi_changeBit 2 (none) :: zT
theorem hd_Ai_hasBit : yAi_hasBit.cls ≠ "java/lang/invoke/MethodHandle" ∧ yAi_hasBit.cls ≠ "java/lang/invoke/VarHandle" ∧ (parseMethodDescriptor yAi_hasBit.desc).map (fun d => d.parameters.length) = some 1 := by decide +kernel
def wsAi_hasBit : List Cond := Cond.code yAi_hasBit cAi_hasBit 2 (some .boolean) :: zT
theorem hd_Ai_hasWord : yAi_hasWord.cls ≠ "java/lang/invoke/MethodHandle" ∧ yAi_hasWord.cls ≠ "java/lang/invoke/VarHandle" ∧ (parseMethodDescriptor yAi_hasWord.desc).map (fun d => d.parameters.length) = some 1 := by decide +kernel
def wsAi_hasWord : List Cond := Cond.code yAi_hasWord cAi_hasWord 2 (some .boolean) :: zT
theorem hd_Ai_send : yAi_send.cls ≠ "java/lang/invoke/MethodHandle" ∧ yAi_send.cls ≠ "java/lang/invoke/VarHandle" ∧ (parseMethodDescriptor yAi_send.desc).map (fun d => d.parameters.length) = some 2 := by decide +kernel
def wsAi_send : List Cond := Cond.code yAi_send cAi_send 5 (none) :: zT
theorem hd_Ai_wordAt : yAi_wordAt.cls ≠ "java/lang/invoke/MethodHandle" ∧ yAi_wordAt.cls ≠ "java/lang/invoke/VarHandle" ∧ (parseMethodDescriptor yAi_wordAt.desc).map (fun d => d.parameters.length) = some 1 := by decide +kernel
def wsAi_wordAt : List Cond := Cond.code yAi_wordAt cAi_wordAt 4 (some .int) :: zT
theorem hd_Hd_init : yHd_init.cls ≠ "java/lang/invoke/MethodHandle" ∧ yHd_init.cls ≠ "java/lang/invoke/VarHandle" ∧ (parseMethodDescriptor yHd_init.desc).map (fun d => d.parameters.length) = some 1 := by decide +kernel
def wsHd_init : List Cond := Cond.code yHd_init cHd_init 2 (none) :: zT
theorem hd_Hd_noteNumber : yHd_noteNumber.cls ≠ "java/lang/invoke/MethodHandle" ∧ yHd_noteNumber.cls ≠ "java/lang/invoke/VarHandle" ∧ (parseMethodDescriptor yHd_noteNumber.desc).map (fun d => d.parameters.length) = some 1 := by decide +kernel
def wsHd_noteNumber : List Cond := Cond.code yHd_noteNumber cHd_noteNumber 4 (none) :: zT
theorem hd_Id_init : yId_init.cls ≠ "java/lang/invoke/MethodHandle" ∧ yId_init.cls ≠ "java/lang/invoke/VarHandle" ∧ (parseMethodDescriptor yId_init.desc).map (fun d => d.parameters.length) = some 3 := by decide +kernel
def wsId_init : List Cond := Cond.code yId_init cId_init 4 (none) :: zT
theorem hd_Id_decimal : yId_decimal.cls ≠ "java/lang/invoke/MethodHandle" ∧ yId_decimal.cls ≠ "java/lang/invoke/VarHandle" ∧ (parseMethodDescriptor yId_decimal.desc).map (fun d => d.parameters.length) = some 2 := by decide +kernel
def wsId_decimal : List Cond := Cond.code yId_decimal cId_decimal 2 (some .int) :: zT
theorem hd_Id_numberIn : yId_numberIn.cls ≠ "java/lang/invoke/MethodHandle" ∧ yId_numberIn.cls ≠ "java/lang/invoke/VarHandle" ∧ (parseMethodDescriptor yId_numberIn.desc).map (fun d => d.parameters.length) = some 2 := by decide +kernel
def wsId_numberIn : List Cond := Cond.code yId_numberIn cId_numberIn 4 (some .int) :: zT
theorem hd_Id_numberSign : yId_numberSign.cls ≠ "java/lang/invoke/MethodHandle" ∧ yId_numberSign.cls ≠ "java/lang/invoke/VarHandle" ∧ (parseMethodDescriptor yId_numberSign.desc).map (fun d => d.parameters.length) = some 2 := by decide +kernel
def wsId_numberSign : List Cond := Cond.code yId_numberSign cId_numberSign 3 (some .int) :: zT
theorem hd_Id_numberSigns : yId_numberSigns.cls ≠ "java/lang/invoke/MethodHandle" ∧ yId_numberSigns.cls ≠ "java/lang/invoke/VarHandle" ∧ (parseMethodDescriptor yId_numberSigns.desc).map (fun d => d.parameters.length) = some 0 := by decide +kernel
def wsId_numberSigns : List Cond := Cond.code yId_numberSigns cId_numberSigns 1 (some .int) :: zT
theorem hd_Ly_init : yLy_init.cls ≠ "java/lang/invoke/MethodHandle" ∧ yLy_init.cls ≠ "java/lang/invoke/VarHandle" ∧ (parseMethodDescriptor yLy_init.desc).map (fun d => d.parameters.length) = some 0 := by decide +kernel
def wsLy_init : List Cond := Cond.code yLy_init cLy_init 1 (none) :: zT
theorem hd_Ly_areFree : yLy_areFree.cls ≠ "java/lang/invoke/MethodHandle" ∧ yLy_areFree.cls ≠ "java/lang/invoke/VarHandle" ∧ (parseMethodDescriptor yLy_areFree.desc).map (fun d => d.parameters.length) = some 2 := by decide +kernel
def wsLy_areFree : List Cond := Cond.code yLy_areFree cLy_areFree 4 (some .boolean) :: zT
theorem hd_Ly_clear : yLy_clear.cls ≠ "java/lang/invoke/MethodHandle" ∧ yLy_clear.cls ≠ "java/lang/invoke/VarHandle" ∧ (parseMethodDescriptor yLy_clear.desc).map (fun d => d.parameters.length) = some 1 := by decide +kernel
def wsLy_clear : List Cond := Cond.code yLy_clear cLy_clear 2 (none) :: zT
theorem hd_Ly_findPlace : yLy_findPlace.cls ≠ "java/lang/invoke/MethodHandle" ∧ yLy_findPlace.cls ≠ "java/lang/invoke/VarHandle" ∧ (parseMethodDescriptor yLy_findPlace.desc).map (fun d => d.parameters.length) = some 2 := by decide +kernel
def wsLy_findPlace : List Cond := Cond.code yLy_findPlace cLy_findPlace 4 (some .int) :: zT
theorem hd_Ly_lay : yLy_lay.cls ≠ "java/lang/invoke/MethodHandle" ∧ yLy_lay.cls ≠ "java/lang/invoke/VarHandle" ∧ (parseMethodDescriptor yLy_lay.desc).map (fun d => d.parameters.length) = some 1 := by decide +kernel
def wsLy_lay : List Cond := Cond.code yLy_lay cLy_lay 5 (some .boolean) :: zT
theorem hd_Ls_init : yLs_init.cls ≠ "java/lang/invoke/MethodHandle" ∧ yLs_init.cls ≠ "java/lang/invoke/VarHandle" ∧ (parseMethodDescriptor yLs_init.desc).map (fun d => d.parameters.length) = some 0 := by decide +kernel
def wsLs_init : List Cond := Cond.code yLs_init cLs_init 1 (none) :: zT
theorem hd_Ls_addContent : yLs_addContent.cls ≠ "java/lang/invoke/MethodHandle" ∧ yLs_addContent.cls ≠ "java/lang/invoke/VarHandle" ∧ (parseMethodDescriptor yLs_addContent.desc).map (fun d => d.parameters.length) = some 1 := by decide +kernel
def wsLs_addContent : List Cond := Cond.code yLs_addContent cLs_addContent 3 (none) :: zT
theorem hd_Ls_addSign : yLs_addSign.cls ≠ "java/lang/invoke/MethodHandle" ∧ yLs_addSign.cls ≠ "java/lang/invoke/VarHandle" ∧ (parseMethodDescriptor yLs_addSign.desc).map (fun d => d.parameters.length) = some 1 := by decide +kernel
def wsLs_addSign : List Cond := Cond.code yLs_addSign cLs_addSign 2 (none) :: zT
theorem hd_Ls_beginMessage : yLs_beginMessage.cls ≠ "java/lang/invoke/MethodHandle" ∧ yLs_beginMessage.cls ≠ "java/lang/invoke/VarHandle" ∧ (parseMethodDescriptor yLs_beginMessage.desc).map (fun d => d.parameters.length) = some 1 := by decide +kernel
def wsLs_beginMessage : List Cond := Cond.code yLs_beginMessage cLs_beginMessage 2 (none) :: zT
theorem hd_Ls_endMessage : yLs_endMessage.cls ≠ "java/lang/invoke/MethodHandle" ∧ yLs_endMessage.cls ≠ "java/lang/invoke/VarHandle" ∧ (parseMethodDescriptor yLs_endMessage.desc).map (fun d => d.parameters.length) = some 1 := by decide +kernel
def wsLs_endMessage : List Cond := Cond.code yLs_endMessage cLs_endMessage 3 (none) :: zT
theorem hd_Ls_hunt : yLs_hunt.cls ≠ "java/lang/invoke/MethodHandle" ∧ yLs_hunt.cls ≠ "java/lang/invoke/VarHandle" ∧ (parseMethodDescriptor yLs_hunt.desc).map (fun d => d.parameters.length) = some 1 := by decide +kernel
def wsLs_hunt : List Cond := Cond.code yLs_hunt cLs_hunt 4 (some .int) :: zT
theorem hd_Ls_listen : yLs_listen.cls ≠ "java/lang/invoke/MethodHandle" ∧ yLs_listen.cls ≠ "java/lang/invoke/VarHandle" ∧ (parseMethodDescriptor yLs_listen.desc).map (fun d => d.parameters.length) = some 3 := by decide +kernel
def wsLs_listen : List Cond := Cond.code yLs_listen cLs_listen 6 (some .int) :: zT
theorem hd_Ls_store : yLs_store.cls ≠ "java/lang/invoke/MethodHandle" ∧ yLs_store.cls ≠ "java/lang/invoke/VarHandle" ∧ (parseMethodDescriptor yLs_store.desc).map (fun d => d.parameters.length) = some 2 := by decide +kernel
def wsLs_store : List Cond := Cond.code yLs_store cLs_store 7 (none) :: zT
theorem hd_Ls_takeBatch : yLs_takeBatch.cls ≠ "java/lang/invoke/MethodHandle" ∧ yLs_takeBatch.cls ≠ "java/lang/invoke/VarHandle" ∧ (parseMethodDescriptor yLs_takeBatch.desc).map (fun d => d.parameters.length) = some 1 := by decide +kernel
def wsLs_takeBatch : List Cond := Cond.code yLs_takeBatch cLs_takeBatch 5 (some .int) :: zT
theorem hd_Ls_takeSync : yLs_takeSync.cls ≠ "java/lang/invoke/MethodHandle" ∧ yLs_takeSync.cls ≠ "java/lang/invoke/VarHandle" ∧ (parseMethodDescriptor yLs_takeSync.desc).map (fun d => d.parameters.length) = some 1 := by decide +kernel
def wsLs_takeSync : List Cond := Cond.code yLs_takeSync cLs_takeSync 2 (some .int) :: zT
theorem hd_Ls_takeWord : yLs_takeWord.cls ≠ "java/lang/invoke/MethodHandle" ∧ yLs_takeWord.cls ≠ "java/lang/invoke/VarHandle" ∧ (parseMethodDescriptor yLs_takeWord.desc).map (fun d => d.parameters.length) = some 2 := by decide +kernel
def wsLs_takeWord : List Cond := Cond.code yLs_takeWord cLs_takeWord 5 (none) :: zT
theorem hd_Ms_init : yMs_init.cls ≠ "java/lang/invoke/MethodHandle" ∧ yMs_init.cls ≠ "java/lang/invoke/VarHandle" ∧ (parseMethodDescriptor yMs_init.desc).map (fun d => d.parameters.length) = some 4 := by decide +kernel
def wsMs_init : List Cond := Cond.code yMs_init cMs_init 5 (none) :: zT
theorem hd_Ms_sentSign : yMs_sentSign.cls ≠ "java/lang/invoke/MethodHandle" ∧ yMs_sentSign.cls ≠ "java/lang/invoke/VarHandle" ∧ (parseMethodDescriptor yMs_sentSign.desc).map (fun d => d.parameters.length) = some 4 := by decide +kernel
def wsMs_sentSign : List Cond := Cond.code yMs_sentSign cMs_sentSign 5 (some .int) :: zT
theorem hd_Ms_wordsOf : yMs_wordsOf.cls ≠ "java/lang/invoke/MethodHandle" ∧ yMs_wordsOf.cls ≠ "java/lang/invoke/VarHandle" ∧ (parseMethodDescriptor yMs_wordsOf.desc).map (fun d => d.parameters.length) = some 3 := by decide +kernel
def wsMs_wordsOf : List Cond := Cond.code yMs_wordsOf cMs_wordsOf 10 (some (.array .int)) :: zT
theorem hd_Pg_init : yPg_init.cls ≠ "java/lang/invoke/MethodHandle" ∧ yPg_init.cls ≠ "java/lang/invoke/VarHandle" ∧ (parseMethodDescriptor yPg_init.desc).map (fun d => d.parameters.length) = some 0 := by decide +kernel
def wsPg_init : List Cond := Cond.code yPg_init cPg_init 2 (none) :: zT
theorem hd_Pg_addHeard : yPg_addHeard.cls ≠ "java/lang/invoke/MethodHandle" ∧ yPg_addHeard.cls ≠ "java/lang/invoke/VarHandle" ∧ (parseMethodDescriptor yPg_addHeard.desc).map (fun d => d.parameters.length) = some 1 := by decide +kernel
def wsPg_addHeard : List Cond := Cond.code yPg_addHeard cPg_addHeard 2 (some .boolean) :: zT
theorem hd_Pg_calledBy : yPg_calledBy.cls ≠ "java/lang/invoke/MethodHandle" ∧ yPg_calledBy.cls ≠ "java/lang/invoke/VarHandle" ∧ (parseMethodDescriptor yPg_calledBy.desc).map (fun d => d.parameters.length) = some 2 := by decide +kernel
def wsPg_calledBy : List Cond := Cond.code yPg_calledBy cPg_calledBy 5 (some (.object "WakingPagers$Heard")) :: zT
theorem hd_Pg_hasFrame : yPg_hasFrame.cls ≠ "java/lang/invoke/MethodHandle" ∧ yPg_hasFrame.cls ≠ "java/lang/invoke/VarHandle" ∧ (parseMethodDescriptor yPg_hasFrame.desc).map (fun d => d.parameters.length) = some 1 := by decide +kernel
def wsPg_hasFrame : List Cond := Cond.code yPg_hasFrame cPg_hasFrame 3 (some .boolean) :: zT
theorem hd_Pg_heardOf : yPg_heardOf.cls ≠ "java/lang/invoke/MethodHandle" ∧ yPg_heardOf.cls ≠ "java/lang/invoke/VarHandle" ∧ (parseMethodDescriptor yPg_heardOf.desc).map (fun d => d.parameters.length) = some 1 := by decide +kernel
def wsPg_heardOf : List Cond := Cond.code yPg_heardOf cPg_heardOf 3 (some (.object "WakingPagers$Heard")) :: zT
theorem hd_Pg_nextStored : yPg_nextStored.cls ≠ "java/lang/invoke/MethodHandle" ∧ yPg_nextStored.cls ≠ "java/lang/invoke/VarHandle" ∧ (parseMethodDescriptor yPg_nextStored.desc).map (fun d => d.parameters.length) = some 0 := by decide +kernel
def wsPg_nextStored : List Cond := Cond.code yPg_nextStored cPg_nextStored 2 (some (.object "WakingPagers$Stored")) :: zT
theorem hd_Pg_storedAt : yPg_storedAt.cls ≠ "java/lang/invoke/MethodHandle" ∧ yPg_storedAt.cls ≠ "java/lang/invoke/VarHandle" ∧ (parseMethodDescriptor yPg_storedAt.desc).map (fun d => d.parameters.length) = some 1 := by decide +kernel
def wsPg_storedAt : List Cond := Cond.code yPg_storedAt cPg_storedAt 2 (some (.object "WakingPagers$Stored")) :: zT
theorem hd_Rp_oneWrongBit : yRp_oneWrongBit.cls ≠ "java/lang/invoke/MethodHandle" ∧ yRp_oneWrongBit.cls ≠ "java/lang/invoke/VarHandle" ∧ (parseMethodDescriptor yRp_oneWrongBit.desc).map (fun d => d.parameters.length) = some 1 := by decide +kernel
def wsRp_oneWrongBit : List Cond := Cond.code yRp_oneWrongBit cRp_oneWrongBit 2 (some .int) :: zT
theorem hd_Rp_remainder : yRp_remainder.cls ≠ "java/lang/invoke/MethodHandle" ∧ yRp_remainder.cls ≠ "java/lang/invoke/VarHandle" ∧ (parseMethodDescriptor yRp_remainder.desc).map (fun d => d.parameters.length) = some 1 := by decide +kernel
def wsRp_remainder : List Cond := Cond.code yRp_remainder cRp_remainder 3 (some .int) :: zT
theorem hd_Rp_traceOf : yRp_traceOf.cls ≠ "java/lang/invoke/MethodHandle" ∧ yRp_traceOf.cls ≠ "java/lang/invoke/VarHandle" ∧ (parseMethodDescriptor yRp_traceOf.desc).map (fun d => d.parameters.length) = some 1 := by decide +kernel
def wsRp_traceOf : List Cond := Cond.code yRp_traceOf cRp_traceOf 1 (some .int) :: zT
theorem hd_Rp_twoWrongBits : yRp_twoWrongBits.cls ≠ "java/lang/invoke/MethodHandle" ∧ yRp_twoWrongBits.cls ≠ "java/lang/invoke/VarHandle" ∧ (parseMethodDescriptor yRp_twoWrongBits.desc).map (fun d => d.parameters.length) = some 1 := by decide +kernel
def wsRp_twoWrongBits : List Cond := Cond.code yRp_twoWrongBits cRp_twoWrongBits 3 (some .int) :: zT
theorem hd_Rp_wrongBits : yRp_wrongBits.cls ≠ "java/lang/invoke/MethodHandle" ∧ yRp_wrongBits.cls ≠ "java/lang/invoke/VarHandle" ∧ (parseMethodDescriptor yRp_wrongBits.desc).map (fun d => d.parameters.length) = some 1 := by decide +kernel
def wsRp_wrongBits : List Cond := Cond.code yRp_wrongBits cRp_wrongBits 2 (some .int) :: zT
theorem hd_Sd_init : ySd_init.cls ≠ "java/lang/invoke/MethodHandle" ∧ ySd_init.cls ≠ "java/lang/invoke/VarHandle" ∧ (parseMethodDescriptor ySd_init.desc).map (fun d => d.parameters.length) = some 0 := by decide +kernel
def wsSd_init : List Cond := Cond.code ySd_init cSd_init 1 (none) :: zT
theorem hd_Mo_init : yMo_init.cls ≠ "java/lang/invoke/MethodHandle" ∧ yMo_init.cls ≠ "java/lang/invoke/VarHandle" ∧ (parseMethodDescriptor yMo_init.desc).map (fun d => d.parameters.length) = some 0 := by decide +kernel
def wsMo_init : List Cond := Cond.code yMo_init cMo_init 1 (none) :: zT
theorem hd_Mo_add : yMo_add.cls ≠ "java/lang/invoke/MethodHandle" ∧ yMo_add.cls ≠ "java/lang/invoke/VarHandle" ∧ (parseMethodDescriptor yMo_add.desc).map (fun d => d.parameters.length) = some 1 := by decide +kernel
def wsMo_add : List Cond := Cond.code yMo_add cMo_add 3 (none) :: zT
theorem hd_Mo_addressData : yMo_addressData.cls ≠ "java/lang/invoke/MethodHandle" ∧ yMo_addressData.cls ≠ "java/lang/invoke/VarHandle" ∧ (parseMethodDescriptor yMo_addressData.desc).map (fun d => d.parameters.length) = some 1 := by decide +kernel
def wsMo_addressData : List Cond := Cond.code yMo_addressData cMo_addressData 2 (some .int) :: zT
theorem hd_Mo_batches : yMo_batches.cls ≠ "java/lang/invoke/MethodHandle" ∧ yMo_batches.cls ≠ "java/lang/invoke/VarHandle" ∧ (parseMethodDescriptor yMo_batches.desc).map (fun d => d.parameters.length) = some 1 := by decide +kernel
def wsMo_batches : List Cond := Cond.code yMo_batches cMo_batches 5 (some .int) :: zT
theorem hd_Mo_bit : yMo_bit.cls ≠ "java/lang/invoke/MethodHandle" ∧ yMo_bit.cls ≠ "java/lang/invoke/VarHandle" ∧ (parseMethodDescriptor yMo_bit.desc).map (fun d => d.parameters.length) = some 1 := by decide +kernel
def wsMo_bit : List Cond := Cond.code yMo_bit cMo_bit 2 (some .int) :: zT
theorem hd_Mo_call : yMo_call.cls ≠ "java/lang/invoke/MethodHandle" ∧ yMo_call.cls ≠ "java/lang/invoke/VarHandle" ∧ (parseMethodDescriptor yMo_call.desc).map (fun d => d.parameters.length) = some 2 := by decide +kernel
def wsMo_call : List Cond := Cond.code yMo_call cMo_call 5 (some .int) :: zT
theorem hd_Mo_code : yMo_code.cls ≠ "java/lang/invoke/MethodHandle" ∧ yMo_code.cls ≠ "java/lang/invoke/VarHandle" ∧ (parseMethodDescriptor yMo_code.desc).map (fun d => d.parameters.length) = some 1 := by decide +kernel
def wsMo_code : List Cond := Cond.code yMo_code cMo_code 2 (some .int) :: zT
theorem hd_Mo_codeword : yMo_codeword.cls ≠ "java/lang/invoke/MethodHandle" ∧ yMo_codeword.cls ≠ "java/lang/invoke/VarHandle" ∧ (parseMethodDescriptor yMo_codeword.desc).map (fun d => d.parameters.length) = some 1 := by decide +kernel
def wsMo_codeword : List Cond := Cond.code yMo_codeword cMo_codeword 5 (some .int) :: zT
theorem hd_Mo_count : yMo_count.cls ≠ "java/lang/invoke/MethodHandle" ∧ yMo_count.cls ≠ "java/lang/invoke/VarHandle" ∧ (parseMethodDescriptor yMo_count.desc).map (fun d => d.parameters.length) = some 2 := by decide +kernel
def wsMo_count : List Cond := Cond.code yMo_count cMo_count 3 (some .int) :: zT
theorem hd_Mo_desk : yMo_desk.cls ≠ "java/lang/invoke/MethodHandle" ∧ yMo_desk.cls ≠ "java/lang/invoke/VarHandle" ∧ (parseMethodDescriptor yMo_desk.desc).map (fun d => d.parameters.length) = some 3 := by decide +kernel
def wsMo_desk : List Cond := Cond.code yMo_desk cMo_desk 6 (some .int) :: zT
theorem hd_Mo_finish : yMo_finish.cls ≠ "java/lang/invoke/MethodHandle" ∧ yMo_finish.cls ≠ "java/lang/invoke/VarHandle" ∧ (parseMethodDescriptor yMo_finish.desc).map (fun d => d.parameters.length) = some 1 := by decide +kernel
def wsMo_finish : List Cond := Cond.code yMo_finish cMo_finish 9 (none) :: zT
theorem hd_Mo_fits : yMo_fits.cls ≠ "java/lang/invoke/MethodHandle" ∧ yMo_fits.cls ≠ "java/lang/invoke/VarHandle" ∧ (parseMethodDescriptor yMo_fits.desc).map (fun d => d.parameters.length) = some 3 := by decide +kernel
def wsMo_fits : List Cond := Cond.code yMo_fits cMo_fits 6 (some .boolean) :: zT
theorem hd_Mo_flip : yMo_flip.cls ≠ "java/lang/invoke/MethodHandle" ∧ yMo_flip.cls ≠ "java/lang/invoke/VarHandle" ∧ (parseMethodDescriptor yMo_flip.desc).map (fun d => d.parameters.length) = some 1 := by decide +kernel
def wsMo_flip : List Cond := Cond.code yMo_flip cMo_flip 2 (some .int) :: zT
theorem hd_Mo_gotSign : yMo_gotSign.cls ≠ "java/lang/invoke/MethodHandle" ∧ yMo_gotSign.cls ≠ "java/lang/invoke/VarHandle" ∧ (parseMethodDescriptor yMo_gotSign.desc).map (fun d => d.parameters.length) = some 1 := by decide +kernel
def wsMo_gotSign : List Cond := Cond.code yMo_gotSign cMo_gotSign 5 (some .int) :: zT
theorem hd_Mo_hear : yMo_hear.cls ≠ "java/lang/invoke/MethodHandle" ∧ yMo_hear.cls ≠ "java/lang/invoke/VarHandle" ∧ (parseMethodDescriptor yMo_hear.desc).map (fun d => d.parameters.length) = some 2 := by decide +kernel
def wsMo_hear : List Cond := Cond.code yMo_hear cMo_hear 5 (some .int) :: zT
theorem hd_Mo_identity : yMo_identity.cls ≠ "java/lang/invoke/MethodHandle" ∧ yMo_identity.cls ≠ "java/lang/invoke/VarHandle" ∧ (parseMethodDescriptor yMo_identity.desc).map (fun d => d.parameters.length) = some 2 := by decide +kernel
def wsMo_identity : List Cond := Cond.code yMo_identity cMo_identity 4 (some .int) :: zT
theorem hd_Mo_identityOf : yMo_identityOf.cls ≠ "java/lang/invoke/MethodHandle" ∧ yMo_identityOf.cls ≠ "java/lang/invoke/VarHandle" ∧ (parseMethodDescriptor yMo_identityOf.desc).map (fun d => d.parameters.length) = some 2 := by decide +kernel
def wsMo_identityOf : List Cond := Cond.code yMo_identityOf cMo_identityOf 5 (some .int) :: zT
theorem hd_Mo_isAwake : yMo_isAwake.cls ≠ "java/lang/invoke/MethodHandle" ∧ yMo_isAwake.cls ≠ "java/lang/invoke/VarHandle" ∧ (parseMethodDescriptor yMo_isAwake.desc).map (fun d => d.parameters.length) = some 1 := by decide +kernel
def wsMo_isAwake : List Cond := Cond.code yMo_isAwake cMo_isAwake 4 (some .boolean) :: zT
theorem hd_Mo_isCodeword : yMo_isCodeword.cls ≠ "java/lang/invoke/MethodHandle" ∧ yMo_isCodeword.cls ≠ "java/lang/invoke/VarHandle" ∧ (parseMethodDescriptor yMo_isCodeword.desc).map (fun d => d.parameters.length) = some 1 := by decide +kernel
def wsMo_isCodeword : List Cond := Cond.code yMo_isCodeword cMo_isCodeword 1 (some .boolean) :: zT
theorem hd_Mo_isIdentity : yMo_isIdentity.cls ≠ "java/lang/invoke/MethodHandle" ∧ yMo_isIdentity.cls ≠ "java/lang/invoke/VarHandle" ∧ (parseMethodDescriptor yMo_isIdentity.desc).map (fun d => d.parameters.length) = some 1 := by decide +kernel
def wsMo_isIdentity : List Cond := Cond.code yMo_isIdentity cMo_isIdentity 2 (some .boolean) :: zT
theorem hd_Mo_isKept : yMo_isKept.cls ≠ "java/lang/invoke/MethodHandle" ∧ yMo_isKept.cls ≠ "java/lang/invoke/VarHandle" ∧ (parseMethodDescriptor yMo_isKept.desc).map (fun d => d.parameters.length) = some 2 := by decide +kernel
def wsMo_isKept : List Cond := Cond.code yMo_isKept cMo_isKept 3 (some .boolean) :: zT
theorem hd_Mo_isPager : yMo_isPager.cls ≠ "java/lang/invoke/MethodHandle" ∧ yMo_isPager.cls ≠ "java/lang/invoke/VarHandle" ∧ (parseMethodDescriptor yMo_isPager.desc).map (fun d => d.parameters.length) = some 1 := by decide +kernel
def wsMo_isPager : List Cond := Cond.code yMo_isPager cMo_isPager 2 (some .boolean) :: zT
theorem hd_Mo_isSync : yMo_isSync.cls ≠ "java/lang/invoke/MethodHandle" ∧ yMo_isSync.cls ≠ "java/lang/invoke/VarHandle" ∧ (parseMethodDescriptor yMo_isSync.desc).map (fun d => d.parameters.length) = some 1 := by decide +kernel
def wsMo_isSync : List Cond := Cond.code yMo_isSync cMo_isSync 2 (some .boolean) :: zT
theorem hd_Mo_join : yMo_join.cls ≠ "java/lang/invoke/MethodHandle" ∧ yMo_join.cls ≠ "java/lang/invoke/VarHandle" ∧ (parseMethodDescriptor yMo_join.desc).map (fun d => d.parameters.length) = some 2 := by decide +kernel
def wsMo_join : List Cond := Cond.code yMo_join cMo_join 3 (some .int) :: zT
theorem hd_Mo_kept : yMo_kept.cls ≠ "java/lang/invoke/MethodHandle" ∧ yMo_kept.cls ≠ "java/lang/invoke/VarHandle" ∧ (parseMethodDescriptor yMo_kept.desc).map (fun d => d.parameters.length) = some 1 := by decide +kernel
def wsMo_kept : List Cond := Cond.code yMo_kept cMo_kept 2 (some .int) :: zT
theorem hd_Mo_lay : yMo_lay.cls ≠ "java/lang/invoke/MethodHandle" ∧ yMo_lay.cls ≠ "java/lang/invoke/VarHandle" ∧ (parseMethodDescriptor yMo_lay.desc).map (fun d => d.parameters.length) = some 3 := by decide +kernel
def wsMo_lay : List Cond := Cond.code yMo_lay cMo_lay 5 (some .int) :: zT
theorem hd_Mo_layAt : yMo_layAt.cls ≠ "java/lang/invoke/MethodHandle" ∧ yMo_layAt.cls ≠ "java/lang/invoke/VarHandle" ∧ (parseMethodDescriptor yMo_layAt.desc).map (fun d => d.parameters.length) = some 2 := by decide +kernel
def wsMo_layAt : List Cond := Cond.code yMo_layAt cMo_layAt 6 (none) :: zT
theorem hd_Mo_listensTo : yMo_listensTo.cls ≠ "java/lang/invoke/MethodHandle" ∧ yMo_listensTo.cls ≠ "java/lang/invoke/VarHandle" ∧ (parseMethodDescriptor yMo_listensTo.desc).map (fun d => d.parameters.length) = some 2 := by decide +kernel
def wsMo_listensTo : List Cond := Cond.code yMo_listensTo cMo_listensTo 5 (some .boolean) :: zT
theorem hd_Mo_load : yMo_load.cls ≠ "java/lang/invoke/MethodHandle" ∧ yMo_load.cls ≠ "java/lang/invoke/VarHandle" ∧ (parseMethodDescriptor yMo_load.desc).map (fun d => d.parameters.length) = some 2 := by decide +kernel
def wsMo_load : List Cond := Cond.code yMo_load cMo_load 5 (some .int) :: zT
theorem hd_Mo_look : yMo_look.cls ≠ "java/lang/invoke/MethodHandle" ∧ yMo_look.cls ≠ "java/lang/invoke/VarHandle" ∧ (parseMethodDescriptor yMo_look.desc).map (fun d => d.parameters.length) = some 2 := by decide +kernel
def wsMo_look : List Cond := Cond.code yMo_look cMo_look 4 (none) :: zT
theorem hd_Mo_message : yMo_message.cls ≠ "java/lang/invoke/MethodHandle" ∧ yMo_message.cls ≠ "java/lang/invoke/VarHandle" ∧ (parseMethodDescriptor yMo_message.desc).map (fun d => d.parameters.length) = some 3 := by decide +kernel
def wsMo_message : List Cond := Cond.code yMo_message cMo_message 5 (some .int) :: zT
theorem hd_Mo_missed : yMo_missed.cls ≠ "java/lang/invoke/MethodHandle" ∧ yMo_missed.cls ≠ "java/lang/invoke/VarHandle" ∧ (parseMethodDescriptor yMo_missed.desc).map (fun d => d.parameters.length) = some 2 := by decide +kernel
def wsMo_missed : List Cond := Cond.code yMo_missed cMo_missed 3 (some .long) :: zT
theorem hd_Mo_note : yMo_note.cls ≠ "java/lang/invoke/MethodHandle" ∧ yMo_note.cls ≠ "java/lang/invoke/VarHandle" ∧ (parseMethodDescriptor yMo_note.desc).map (fun d => d.parameters.length) = some 1 := by decide +kernel
def wsMo_note : List Cond := Cond.code yMo_note cMo_note 5 (none) :: zT
theorem hd_Mo_numberOf : yMo_numberOf.cls ≠ "java/lang/invoke/MethodHandle" ∧ yMo_numberOf.cls ≠ "java/lang/invoke/VarHandle" ∧ (parseMethodDescriptor yMo_numberOf.desc).map (fun d => d.parameters.length) = some 1 := by decide +kernel
def wsMo_numberOf : List Cond := Cond.code yMo_numberOf cMo_numberOf 3 (some .int) :: zT
theorem hd_Mo_onesOf : yMo_onesOf.cls ≠ "java/lang/invoke/MethodHandle" ∧ yMo_onesOf.cls ≠ "java/lang/invoke/VarHandle" ∧ (parseMethodDescriptor yMo_onesOf.desc).map (fun d => d.parameters.length) = some 1 := by decide +kernel
def wsMo_onesOf : List Cond := Cond.code yMo_onesOf cMo_onesOf 3 (some .int) :: zT
theorem hd_Mo_outBit : yMo_outBit.cls ≠ "java/lang/invoke/MethodHandle" ∧ yMo_outBit.cls ≠ "java/lang/invoke/VarHandle" ∧ (parseMethodDescriptor yMo_outBit.desc).map (fun d => d.parameters.length) = some 2 := by decide +kernel
def wsMo_outBit : List Cond := Cond.code yMo_outBit cMo_outBit 4 (some .int) :: zT
theorem hd_Mo_outgoing : yMo_outgoing.cls ≠ "java/lang/invoke/MethodHandle" ∧ yMo_outgoing.cls ≠ "java/lang/invoke/VarHandle" ∧ (parseMethodDescriptor yMo_outgoing.desc).map (fun d => d.parameters.length) = some 2 := by decide +kernel
def wsMo_outgoing : List Cond := Cond.code yMo_outgoing cMo_outgoing 3 (some .int) :: zT
theorem hd_Mo_pager : yMo_pager.cls ≠ "java/lang/invoke/MethodHandle" ∧ yMo_pager.cls ≠ "java/lang/invoke/VarHandle" ∧ (parseMethodDescriptor yMo_pager.desc).map (fun d => d.parameters.length) = some 0 := by decide +kernel
def wsMo_pager : List Cond := Cond.code yMo_pager cMo_pager 1 (some .int) :: zT
theorem hd_Mo_repair : yMo_repair.cls ≠ "java/lang/invoke/MethodHandle" ∧ yMo_repair.cls ≠ "java/lang/invoke/VarHandle" ∧ (parseMethodDescriptor yMo_repair.desc).map (fun d => d.parameters.length) = some 1 := by decide +kernel
def wsMo_repair : List Cond := Cond.code yMo_repair cMo_repair 5 (some .int) :: zT
theorem hd_Mo_room : yMo_room.cls ≠ "java/lang/invoke/MethodHandle" ∧ yMo_room.cls ≠ "java/lang/invoke/VarHandle" ∧ (parseMethodDescriptor yMo_room.desc).map (fun d => d.parameters.length) = some 0 := by decide +kernel
def wsMo_room : List Cond := Cond.code yMo_room cMo_room 4 (some .int) :: zT
theorem hd_Mo_send : yMo_send.cls ≠ "java/lang/invoke/MethodHandle" ∧ yMo_send.cls ≠ "java/lang/invoke/VarHandle" ∧ (parseMethodDescriptor yMo_send.desc).map (fun d => d.parameters.length) = some 1 := by decide +kernel
def wsMo_send : List Cond := Cond.code yMo_send cMo_send 3 (none) :: zT
theorem hd_Mo_sign : yMo_sign.cls ≠ "java/lang/invoke/MethodHandle" ∧ yMo_sign.cls ≠ "java/lang/invoke/VarHandle" ∧ (parseMethodDescriptor yMo_sign.desc).map (fun d => d.parameters.length) = some 3 := by decide +kernel
def wsMo_sign : List Cond := Cond.code yMo_sign cMo_sign 4 (some .int) :: zT
theorem hd_Mo_transmit : yMo_transmit.cls ≠ "java/lang/invoke/MethodHandle" ∧ yMo_transmit.cls ≠ "java/lang/invoke/VarHandle" ∧ (parseMethodDescriptor yMo_transmit.desc).map (fun d => d.parameters.length) = some 1 := by decide +kernel
def wsMo_transmit : List Cond := Cond.code yMo_transmit cMo_transmit 4 (some .int) :: zT
theorem hd_Mo_unload : yMo_unload.cls ≠ "java/lang/invoke/MethodHandle" ∧ yMo_unload.cls ≠ "java/lang/invoke/VarHandle" ∧ (parseMethodDescriptor yMo_unload.desc).map (fun d => d.parameters.length) = some 0 := by decide +kernel
def wsMo_unload : List Cond := Cond.code yMo_unload cMo_unload 2 (some .int) :: zT
theorem hd_Mo_waiting : yMo_waiting.cls ≠ "java/lang/invoke/MethodHandle" ∧ yMo_waiting.cls ≠ "java/lang/invoke/VarHandle" ∧ (parseMethodDescriptor yMo_waiting.desc).map (fun d => d.parameters.length) = some 0 := by decide +kernel
def wsMo_waiting : List Cond := Cond.code yMo_waiting cMo_waiting 3 (some .int) :: zT
theorem hd_Mo_wordAt : yMo_wordAt.cls ≠ "java/lang/invoke/MethodHandle" ∧ yMo_wordAt.cls ≠ "java/lang/invoke/VarHandle" ∧ (parseMethodDescriptor yMo_wordAt.desc).map (fun d => d.parameters.length) = some 1 := by decide +kernel
def wsMo_wordAt : List Cond := Cond.code yMo_wordAt cMo_wordAt 4 (some .int) :: zT
theorem hd_Mo_wordsOf : yMo_wordsOf.cls ≠ "java/lang/invoke/MethodHandle" ∧ yMo_wordsOf.cls ≠ "java/lang/invoke/VarHandle" ∧ (parseMethodDescriptor yMo_wordsOf.desc).map (fun d => d.parameters.length) = some 1 := by decide +kernel
def wsMo_wordsOf : List Cond := Cond.code yMo_wordsOf cMo_wordsOf 3 (some .int) :: zT
theorem hd_In_bitCount : yIn_bitCount.cls ≠ "java/lang/invoke/MethodHandle" ∧ yIn_bitCount.cls ≠ "java/lang/invoke/VarHandle" ∧ (parseMethodDescriptor yIn_bitCount.desc).map (fun d => d.parameters.length) = some 1 := by decide +kernel
def wsIn_bitCount : List Cond := Cond.code yIn_bitCount cIn_bitCount 1 (some .int) :: zT
theorem hd_Ma_floorMod : yMa_floorMod.cls ≠ "java/lang/invoke/MethodHandle" ∧ yMa_floorMod.cls ≠ "java/lang/invoke/VarHandle" ∧ (parseMethodDescriptor yMa_floorMod.desc).map (fun d => d.parameters.length) = some 2 := by decide +kernel
def wsMa_floorMod : List Cond := Cond.code yMa_floorMod cMa_floorMod 3 (some .int) :: zT
theorem hd_Ma_min : yMa_min.cls ≠ "java/lang/invoke/MethodHandle" ∧ yMa_min.cls ≠ "java/lang/invoke/VarHandle" ∧ (parseMethodDescriptor yMa_min.desc).map (fun d => d.parameters.length) = some 2 := by decide +kernel
def wsMa_min : List Cond := Cond.code yMa_min cMa_min 2 (some .int) :: zT
theorem hd_Ar_copyOf : yAr_copyOf.cls ≠ "java/lang/invoke/MethodHandle" ∧ yAr_copyOf.cls ≠ "java/lang/invoke/VarHandle" ∧ (parseMethodDescriptor yAr_copyOf.desc).map (fun d => d.parameters.length) = some 2 := by decide +kernel
def wsAr_copyOf : List Cond := Cond.code yAr_copyOf cAr_copyOf 3 (some (.array .int)) :: zT
theorem hd_Ar_fill : yAr_fill.cls ≠ "java/lang/invoke/MethodHandle" ∧ yAr_fill.cls ≠ "java/lang/invoke/VarHandle" ∧ (parseMethodDescriptor yAr_fill.desc).map (fun d => d.parameters.length) = some 2 := by decide +kernel
def wsAr_fill : List Cond := Cond.code yAr_fill cAr_fill 4 (none) :: zT
