section XM
variable {h : List amSh} {M : amM} {pc idx : Nat} {loc st : List Value} {S : amS} {Q : Option Value → amS → Prop}
theorem x_mmax {x y : Int32} (hd : decode M.2.1 pc = .ok (.invokestatic idx, 3)) (hlink : Cond.methodLink M.1.cls idx Lib.Math.max.name ∈ lw_tbl) (hf1 : Nat.ble 1 M.2.2.2.2.1 = true) (hl1 : Nat.ble (am_wd st + 13) M.2.2.2.2.2 = true) (k : X h M (pc + 3) loc (.int (if x < y then y else x) :: st) S Q) : X h M pc loc (.int y :: .int x :: st) S Q := by
  intro p l e R s m args below meth c D ad ca H0 H locs ls QQ hC hL hP hS hr
  obtain ⟨hx, hb, hml, hown, hts, hK, inj, hfr, hlo⟩ := (show _ from hC)
  have hw1 : Cond.static Lib.Math.max.name ∈ lw_tbl := lm_t1 _ (List.mem_of_getElem? (i := 92) rfl)
  have hw2 : Cond.initialized "java/lang/Math" ∈ lw_tbl := lm_t1 _ (List.mem_of_getElem? (i := 6) rfl)
  have hw3 : Cond.code Lib.Math.max.name Lib.Math.max.code 2 (some .int) ∈ lw_tbl := lm_t1 _ (List.mem_of_getElem? (i := 93) rfl)
  exact va_mmax hx hb (hml.trans hL.1.symm) hown (hts.at hlink rfl args) (hts.at hw1 rfl args) (hts.at hw2 rfl args) (hts.at hw3 rfl args) (Nat.le_trans (Nat.le_of_ble_eq_true hf1) hfr) (by rw [am_wd_sum]; exact Nat.le_trans (Nat.le_of_ble_eq_true hl1) hlo) (Nat.zero_le _) (Nat.zero_le _) hd (k p l e R s m args below meth c D ad ca H0 H locs ls QQ hC hL hP hS hr)
theorem x_mmin {x y : Int32} (hd : decode M.2.1 pc = .ok (.invokestatic idx, 3)) (hlink : Cond.methodLink M.1.cls idx Lib.Math.min.name ∈ lw_tbl) (hf1 : Nat.ble 1 M.2.2.2.2.1 = true) (hl1 : Nat.ble (am_wd st + 13) M.2.2.2.2.2 = true) (k : X h M (pc + 3) loc (.int (if y < x then y else x) :: st) S Q) : X h M pc loc (.int y :: .int x :: st) S Q := by
  intro p l e R s m args below meth c D ad ca H0 H locs ls QQ hC hL hP hS hr
  obtain ⟨hx, hb, hml, hown, hts, hK, inj, hfr, hlo⟩ := (show _ from hC)
  have hw1 : Cond.static Lib.Math.min.name ∈ lw_tbl := lm_t2 _ (List.mem_of_getElem? (i := 118) rfl)
  have hw2 : Cond.initialized "java/lang/Math" ∈ lw_tbl := lm_t1 _ (List.mem_of_getElem? (i := 6) rfl)
  have hw3 : Cond.code Lib.Math.min.name Lib.Math.min.code 2 (some .int) ∈ lw_tbl := lm_t2 _ (List.mem_of_getElem? (i := 119) rfl)
  exact va_mmin hx hb (hml.trans hL.1.symm) hown (hts.at hlink rfl args) (hts.at hw1 rfl args) (hts.at hw2 rfl args) (hts.at hw3 rfl args) (Nat.le_trans (Nat.le_of_ble_eq_true hf1) hfr) (by rw [am_wd_sum]; exact Nat.le_trans (Nat.le_of_ble_eq_true hl1) hlo) (Nat.zero_le _) (Nat.zero_le _) hd (k p l e R s m args below meth c D ad ca H0 H locs ls QQ hC hL hP hS hr)
theorem x_mabs {x : Int32} (hd : decode M.2.1 pc = .ok (.invokestatic idx, 3)) (hlink : Cond.methodLink M.1.cls idx Lib.Math.abs.name ∈ lw_tbl) (hf1 : Nat.ble 1 M.2.2.2.2.1 = true) (hl1 : Nat.ble (am_wd st + 13) M.2.2.2.2.2 = true) (k : X h M (pc + 3) loc (.int (if 0 ≤ x then x else 0 - x) :: st) S Q) : X h M pc loc (.int x :: st) S Q := by
  intro p l e R s m args below meth c D ad ca H0 H locs ls QQ hC hL hP hS hr
  obtain ⟨hx, hb, hml, hown, hts, hK, inj, hfr, hlo⟩ := (show _ from hC)
  have hw1 : Cond.static Lib.Math.abs.name ∈ lw_tbl := lm_t2 _ (List.mem_of_getElem? (i := 220) rfl)
  have hw2 : Cond.initialized "java/lang/Math" ∈ lw_tbl := lm_t1 _ (List.mem_of_getElem? (i := 6) rfl)
  have hw3 : Cond.code Lib.Math.abs.name Lib.Math.abs.code 1 (some .int) ∈ lw_tbl := lm_t2 _ (List.mem_of_getElem? (i := 221) rfl)
  exact va_mabs hx hb (hml.trans hL.1.symm) hown (hts.at hlink rfl args) (hts.at hw1 rfl args) (hts.at hw2 rfl args) (hts.at hw3 rfl args) (Nat.le_trans (Nat.le_of_ble_eq_true hf1) hfr) (by rw [am_wd_sum]; exact Nat.le_trans (Nat.le_of_ble_eq_true hl1) hlo) (Nat.zero_le _) (Nat.zero_le _) hd (k p l e R s m args below meth c D ad ca H0 H locs ls QQ hC hL hP hS hr)
theorem x_mabsl {x : Int64} (hd : decode M.2.1 pc = .ok (.invokestatic idx, 3)) (hlink : Cond.methodLink M.1.cls idx Lib.MathLoose.abs_long.x ∈ lw_tbl) (hf1 : Nat.ble 1 M.2.2.2.2.1 = true) (hl1 : Nat.ble (am_wd st + 13) M.2.2.2.2.2 = true) (k : X h M (pc + 3) loc (.long (if 0 < x then x else -x) :: st) S Q) : X h M pc loc (.long x :: st) S Q := by
  intro p l e R s m args below meth c D ad ca H0 H locs ls QQ hC hL hP hS hr
  obtain ⟨hx, hb, hml, hown, hts, hK, inj, hfr, hlo⟩ := (show _ from hC)
  have hw1 : Cond.static Lib.MathLoose.abs_long.x ∈ lw_tbl := lm_t3 _ (List.mem_of_getElem? (i := 94) rfl)
  have hw2 : Cond.initialized "java/lang/Math" ∈ lw_tbl := lm_t1 _ (List.mem_of_getElem? (i := 6) rfl)
  have hw3 : Cond.code Lib.MathLoose.abs_long.x Lib.MathLoose.abs_long.code 2 (some .long) ∈ lw_tbl := lm_t3 _ (List.mem_of_getElem? (i := 95) rfl)
  exact va_mabs_long hx hb (hml.trans hL.1.symm) hown (hts.at hlink rfl args) (hts.at hw1 rfl args) (hts.at hw2 rfl args) (hts.at hw3 rfl args) (Nat.le_trans (Nat.le_of_ble_eq_true hf1) hfr) (by rw [am_wd_sum]; exact Nat.le_trans (Nat.le_of_ble_eq_true hl1) hlo) (Nat.zero_le _) (Nat.zero_le _) hd (k p l e R s m args below meth c D ad ca H0 H locs ls QQ hC hL hP hS hr)
end XM
