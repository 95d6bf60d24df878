theorem d_FM_isLetter_0 : decode b_FM_isLetter 0 = .ok (.iload_n 0, 1) := by decide +kernel
theorem d_FM_isLetter_1 : decode b_FM_isLetter 1 = .ok (.bipush 97, 2) := by decide +kernel
theorem d_FM_isLetter_3 : decode b_FM_isLetter 3 = .ok (.if_icmp .lt 9, 3) := by decide +kernel
theorem d_FM_isLetter_6 : decode b_FM_isLetter 6 = .ok (.iload_n 0, 1) := by decide +kernel
theorem d_FM_isLetter_7 : decode b_FM_isLetter 7 = .ok (.bipush 122, 2) := by decide +kernel
theorem d_FM_isLetter_9 : decode b_FM_isLetter 9 = .ok (.if_icmp .le 15, 3) := by decide +kernel
theorem d_FM_isLetter_12 : decode b_FM_isLetter 12 = .ok (.iload_n 0, 1) := by decide +kernel
theorem d_FM_isLetter_13 : decode b_FM_isLetter 13 = .ok (.bipush 65, 2) := by decide +kernel
theorem d_FM_isLetter_15 : decode b_FM_isLetter 15 = .ok (.if_icmp .lt 13, 3) := by decide +kernel
theorem d_FM_isLetter_18 : decode b_FM_isLetter 18 = .ok (.iload_n 0, 1) := by decide +kernel
theorem d_FM_isLetter_19 : decode b_FM_isLetter 19 = .ok (.bipush 90, 2) := by decide +kernel
theorem d_FM_isLetter_21 : decode b_FM_isLetter 21 = .ok (.if_icmp .gt 7, 3) := by decide +kernel
theorem d_FM_isLetter_24 : decode b_FM_isLetter 24 = .ok (.iconst 1, 1) := by decide +kernel
theorem d_FM_isLetter_25 : decode b_FM_isLetter 25 = .ok (.goto 4, 3) := by decide +kernel
theorem d_FM_isLetter_28 : decode b_FM_isLetter 28 = .ok (.iconst 0, 1) := by decide +kernel
theorem d_FM_isLetter_29 : decode b_FM_isLetter 29 = .ok (.ireturn, 1) := by decide +kernel
theorem d_FM_isDigit_0 : decode b_FM_isDigit 0 = .ok (.iload_n 0, 1) := by decide +kernel
theorem d_FM_isDigit_1 : decode b_FM_isDigit 1 = .ok (.bipush 48, 2) := by decide +kernel
theorem d_FM_isDigit_3 : decode b_FM_isDigit 3 = .ok (.if_icmp .lt 13, 3) := by decide +kernel
theorem d_FM_isDigit_6 : decode b_FM_isDigit 6 = .ok (.iload_n 0, 1) := by decide +kernel
theorem d_FM_isDigit_7 : decode b_FM_isDigit 7 = .ok (.bipush 57, 2) := by decide +kernel
theorem d_FM_isDigit_9 : decode b_FM_isDigit 9 = .ok (.if_icmp .gt 7, 3) := by decide +kernel
theorem d_FM_isDigit_12 : decode b_FM_isDigit 12 = .ok (.iconst 1, 1) := by decide +kernel
theorem d_FM_isDigit_13 : decode b_FM_isDigit 13 = .ok (.goto 4, 3) := by decide +kernel
theorem d_FM_isDigit_16 : decode b_FM_isDigit 16 = .ok (.iconst 0, 1) := by decide +kernel
theorem d_FM_isDigit_17 : decode b_FM_isDigit 17 = .ok (.ireturn, 1) := by decide +kernel
set_option maxHeartbeats 4000000 in
set_option maxRecDepth 100000 in
/-- a character is a letter -/
theorem c_FM_isLetter (l : Launch) (D : va_G) (ct : Nat → ClassId) (Z : hp_Z) (hZ : hp_Zok Z) (M : hp_M) (sz : Nat) (k : Nat) (hk : k < 65536) : Mi l y_FM_isLetter b_FM_isLetter 1 (some .boolean) 0 0 0 0 [.int (nI k)] D ct Z M sz (fun r M1 => M1 = M ∧ bo r (isLet k)) := by
  refine hp_start (by decide) (Nat.le_of_ble_eq_true rfl) (fun p e s m below meth c ls S hret hlk hnm hsz hK hM hS hA hz hl => ?_)
  have hx := S.1
  have hb := S.2.1
  have hl : lv_has ls 1 [(0, .int (nI k))] := hl
  refine lv_iload_n hx hb d_FM_isLetter_0 rfl (lv_at hl 0 rfl) ?_
  refine lv_bipush (v := nI 97) hx hb d_FM_isLetter_1 rfl ?_
  refine nb_lt (tgt := 12) hx hb d_FM_isLetter_3 (by decide) (by omega) (by omega) (fun h1 => ?_) (fun h1 => ?_)
  · refine lv_iload_n hx hb d_FM_isLetter_12 rfl (lv_at hl 0 rfl) ?_
    refine lv_bipush (v := nI 65) hx hb d_FM_isLetter_13 rfl ?_
    refine nb_lt (tgt := 28) hx hb d_FM_isLetter_15 (by decide) (by omega) (by omega) (fun h2 => ?_) (fun h2 => ?_)
    · refine lv_iconst (v := nI 0) hx hb d_FM_isLetter_28 rfl ?_
      exact hp_iret S hret hlk (rfl) hM hS (⟨rfl, bo_f (by unfold isLet; omega)⟩) d_FM_isLetter_29
    · refine lv_iload_n hx hb d_FM_isLetter_18 rfl (lv_at hl 0 rfl) ?_
      refine lv_bipush (v := nI 90) hx hb d_FM_isLetter_19 rfl ?_
      refine nb_gt (tgt := 28) hx hb d_FM_isLetter_21 (by decide) (by omega) (by omega) (fun h3 => ?_) (fun h3 => ?_)
      · refine lv_iconst (v := nI 0) hx hb d_FM_isLetter_28 rfl ?_
        exact hp_iret S hret hlk (rfl) hM hS (⟨rfl, bo_f (by unfold isLet; omega)⟩) d_FM_isLetter_29
      · refine lv_iconst (v := nI 1) hx hb d_FM_isLetter_24 rfl ?_
        refine lv_goto (tgt := 29) hx hb d_FM_isLetter_25 (by decide) ?_
        exact hp_iret S hret hlk (rfl) hM hS (⟨rfl, bo_t (by unfold isLet; omega)⟩) d_FM_isLetter_29
  · refine lv_iload_n hx hb d_FM_isLetter_6 rfl (lv_at hl 0 rfl) ?_
    refine lv_bipush (v := nI 122) hx hb d_FM_isLetter_7 rfl ?_
    refine nb_le (tgt := 24) hx hb d_FM_isLetter_9 (by decide) (by omega) (by omega) (fun h4 => ?_) (fun h4 => ?_)
    · refine lv_iconst (v := nI 1) hx hb d_FM_isLetter_24 rfl ?_
      refine lv_goto (tgt := 29) hx hb d_FM_isLetter_25 (by decide) ?_
      exact hp_iret S hret hlk (rfl) hM hS (⟨rfl, bo_t (by unfold isLet; omega)⟩) d_FM_isLetter_29
    · refine lv_iload_n hx hb d_FM_isLetter_12 rfl (lv_at hl 0 rfl) ?_
      refine lv_bipush (v := nI 65) hx hb d_FM_isLetter_13 rfl ?_
      refine nb_lt (tgt := 28) hx hb d_FM_isLetter_15 (by decide) (by omega) (by omega) (fun h5 => ?_) (fun h5 => ?_)
      · refine lv_iconst (v := nI 0) hx hb d_FM_isLetter_28 rfl ?_
        exact hp_iret S hret hlk (rfl) hM hS (⟨rfl, bo_f (by unfold isLet; omega)⟩) d_FM_isLetter_29
      · refine lv_iload_n hx hb d_FM_isLetter_18 rfl (lv_at hl 0 rfl) ?_
        refine lv_bipush (v := nI 90) hx hb d_FM_isLetter_19 rfl ?_
        refine nb_gt (tgt := 28) hx hb d_FM_isLetter_21 (by decide) (by omega) (by omega) (fun h6 => ?_) (fun h6 => ?_)
        · refine lv_iconst (v := nI 0) hx hb d_FM_isLetter_28 rfl ?_
          exact hp_iret S hret hlk (rfl) hM hS (⟨rfl, bo_f (by unfold isLet; omega)⟩) d_FM_isLetter_29
        · refine lv_iconst (v := nI 1) hx hb d_FM_isLetter_24 rfl ?_
          refine lv_goto (tgt := 29) hx hb d_FM_isLetter_25 (by decide) ?_
          exact hp_iret S hret hlk (rfl) hM hS (⟨rfl, bo_t (by unfold isLet; omega)⟩) d_FM_isLetter_29
set_option maxHeartbeats 4000000 in
set_option maxRecDepth 100000 in
/-- a character is a digit -/
theorem c_FM_isDigit (l : Launch) (D : va_G) (ct : Nat → ClassId) (Z : hp_Z) (hZ : hp_Zok Z) (M : hp_M) (sz : Nat) (k : Nat) (hk : k < 65536) : Mi l y_FM_isDigit b_FM_isDigit 1 (some .boolean) 0 0 0 0 [.int (nI k)] D ct Z M sz (fun r M1 => M1 = M ∧ bo r (isDig k)) := by
  refine hp_start (by decide) (Nat.le_of_ble_eq_true rfl) (fun p e s m below meth c ls S hret hlk hnm hsz hK hM hS hA hz hl => ?_)
  have hx := S.1
  have hb := S.2.1
  have hl : lv_has ls 1 [(0, .int (nI k))] := hl
  refine lv_iload_n hx hb d_FM_isDigit_0 rfl (lv_at hl 0 rfl) ?_
  refine lv_bipush (v := nI 48) hx hb d_FM_isDigit_1 rfl ?_
  refine nb_lt (tgt := 16) hx hb d_FM_isDigit_3 (by decide) (by omega) (by omega) (fun h1 => ?_) (fun h1 => ?_)
  · refine lv_iconst (v := nI 0) hx hb d_FM_isDigit_16 rfl ?_
    exact hp_iret S hret hlk (rfl) hM hS (⟨rfl, bo_f (by unfold isDig; omega)⟩) d_FM_isDigit_17
  · refine lv_iload_n hx hb d_FM_isDigit_6 rfl (lv_at hl 0 rfl) ?_
    refine lv_bipush (v := nI 57) hx hb d_FM_isDigit_7 rfl ?_
    refine nb_gt (tgt := 16) hx hb d_FM_isDigit_9 (by decide) (by omega) (by omega) (fun h2 => ?_) (fun h2 => ?_)
    · refine lv_iconst (v := nI 0) hx hb d_FM_isDigit_16 rfl ?_
      exact hp_iret S hret hlk (rfl) hM hS (⟨rfl, bo_f (by unfold isDig; omega)⟩) d_FM_isDigit_17
    · refine lv_iconst (v := nI 1) hx hb d_FM_isDigit_12 rfl ?_
      refine lv_goto (tgt := 17) hx hb d_FM_isDigit_13 (by decide) ?_
      exact hp_iret S hret hlk (rfl) hM hS (⟨rfl, bo_t (by unfold isDig; omega)⟩) d_FM_isDigit_17
