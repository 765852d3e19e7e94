theorem am_in_p {big ws : List Cond} (ps : List Nat) (hp : ws = ps.filterMap (fun i => big[i]?)) : ∀ w ∈ ws, w ∈ big := by
  intro w hw
  rw [hp] at hw
  obtain ⟨i, -, hi⟩ := List.mem_filterMap.mp hw
  exact List.mem_of_getElem? hi
theorem lm_t1 : ∀ w ∈ tables_1_1, w ∈ lw_tbl := fun _ h => List.mem_append_right _ (List.mem_append_left _ h)
theorem lm_t2 : ∀ w ∈ tables_1_2, w ∈ lw_tbl := fun _ h => List.mem_append_right _ (List.mem_append_right _ (List.mem_append_left _ h))
theorem lm_t3 : ∀ w ∈ tables_1_3, w ∈ lw_tbl := fun _ h => List.mem_append_right _ (List.mem_append_right _ (List.mem_append_right _ (List.mem_append_left _ h)))
theorem lm_t4 : ∀ w ∈ tables_1_4, w ∈ lw_tbl := fun _ h => List.mem_append_right _ (List.mem_append_right _ (List.mem_append_right _ (List.mem_append_right _ (List.mem_append_left _ h))))
theorem lm_t5 : ∀ w ∈ tables_1_5, w ∈ lw_tbl := fun _ h => List.mem_append_right _ (List.mem_append_right _ (List.mem_append_right _ (List.mem_append_right _ (List.mem_append_right _ (List.mem_append_left _ h)))))
theorem lm_t6 : ∀ w ∈ tables_1_6, w ∈ lw_tbl := fun _ h => List.mem_append_right _ (List.mem_append_right _ (List.mem_append_right _ (List.mem_append_right _ (List.mem_append_right _ (List.mem_append_right _ (h))))))
theorem lm_s1 : ∀ w ∈ k2_sels lw_privs_1, w ∈ lw_tbl := fun w hw => List.mem_append_left _ (by
  obtain ⟨q, h, e⟩ := List.mem_map.mp hw
  exact List.mem_map.mpr ⟨q, List.mem_append_left _ h, e⟩)
theorem lm_s2 : ∀ w ∈ k2_sels lw_privs_2, w ∈ lw_tbl := fun w hw => List.mem_append_left _ (by
  obtain ⟨q, h, e⟩ := List.mem_map.mp hw
  exact List.mem_map.mpr ⟨q, List.mem_append_right _ (List.mem_append_left _ h), e⟩)
theorem lm_s3 : ∀ w ∈ k2_sels lw_privs_3, w ∈ lw_tbl := fun w hw => List.mem_append_left _ (by
  obtain ⟨q, h, e⟩ := List.mem_map.mp hw
  exact List.mem_map.mpr ⟨q, List.mem_append_right _ (List.mem_append_right _ (List.mem_append_left _ h)), e⟩)
theorem lm_s4 : ∀ w ∈ k2_sels lw_privs_4, w ∈ lw_tbl := fun w hw => List.mem_append_left _ (by
  obtain ⟨q, h, e⟩ := List.mem_map.mp hw
  exact List.mem_map.mpr ⟨q, List.mem_append_right _ (List.mem_append_right _ (List.mem_append_right _ (List.mem_append_left _ h))), e⟩)
theorem lm_s5 : ∀ w ∈ k2_sels lw_privs_5, w ∈ lw_tbl := fun w hw => List.mem_append_left _ (by
  obtain ⟨q, h, e⟩ := List.mem_map.mp hw
  exact List.mem_map.mpr ⟨q, List.mem_append_right _ (List.mem_append_right _ (List.mem_append_right _ (List.mem_append_right _ (h)))), e⟩)
theorem in_X0 : ∀ w ∈ u_ws RX0 TX0 6, w ∈ lw_tbl := List.forall_mem_cons.mpr ⟨lm_t2 _ (List.mem_of_getElem? (i := 5) rfl), List.forall_mem_cons.mpr ⟨lm_t2 _ (List.mem_of_getElem? (i := 7) rfl), List.forall_mem_cons.mpr ⟨lm_t2 _ (List.mem_of_getElem? (i := 9) rfl), List.forall_mem_cons.mpr ⟨lm_t2 _ (List.mem_of_getElem? (i := 11) rfl), List.forall_mem_cons.mpr ⟨lm_t2 _ (List.mem_of_getElem? (i := 13) rfl), List.forall_mem_cons.mpr ⟨lm_t2 _ (List.mem_of_getElem? (i := 15) rfl), fun _ h => absurd h List.not_mem_nil⟩⟩⟩⟩⟩⟩
theorem in_X1 : ∀ w ∈ u_ws RX1 TX1 4, w ∈ lw_tbl := List.forall_mem_cons.mpr ⟨lm_t1 _ (List.mem_of_getElem? (i := 49) rfl), List.forall_mem_cons.mpr ⟨lm_t1 _ (List.mem_of_getElem? (i := 51) rfl), List.forall_mem_cons.mpr ⟨lm_t1 _ (List.mem_of_getElem? (i := 53) rfl), List.forall_mem_cons.mpr ⟨lm_t1 _ (List.mem_of_getElem? (i := 55) rfl), fun _ h => absurd h List.not_mem_nil⟩⟩⟩⟩
theorem in_X2 : ∀ w ∈ u_ws RX2 TX2 4, w ∈ lw_tbl := List.forall_mem_cons.mpr ⟨lm_t1 _ (List.mem_of_getElem? (i := 222) rfl), List.forall_mem_cons.mpr ⟨lm_t1 _ (List.mem_of_getElem? (i := 224) rfl), List.forall_mem_cons.mpr ⟨lm_t1 _ (List.mem_of_getElem? (i := 226) rfl), List.forall_mem_cons.mpr ⟨lm_t1 _ (List.mem_of_getElem? (i := 228) rfl), fun _ h => absurd h List.not_mem_nil⟩⟩⟩⟩
theorem in_X3 : ∀ w ∈ u_ws RX3 TX3 3, w ∈ lw_tbl := List.forall_mem_cons.mpr ⟨lm_t1 _ (List.mem_of_getElem? (i := 151) rfl), List.forall_mem_cons.mpr ⟨lm_t1 _ (List.mem_of_getElem? (i := 153) rfl), List.forall_mem_cons.mpr ⟨lm_t1 _ (List.mem_of_getElem? (i := 155) rfl), fun _ h => absurd h List.not_mem_nil⟩⟩⟩
theorem in_X4 : ∀ w ∈ u_ws RX4 TX4 2, w ∈ lw_tbl := List.forall_mem_cons.mpr ⟨lm_t1 _ (List.mem_of_getElem? (i := 103) rfl), List.forall_mem_cons.mpr ⟨lm_t1 _ (List.mem_of_getElem? (i := 105) rfl), fun _ h => absurd h List.not_mem_nil⟩⟩
theorem in_X5 : ∀ w ∈ u_ws RX5 TX5 4, w ∈ lw_tbl := List.forall_mem_cons.mpr ⟨lm_t1 _ (List.mem_of_getElem? (i := 75) rfl), List.forall_mem_cons.mpr ⟨lm_t1 _ (List.mem_of_getElem? (i := 77) rfl), List.forall_mem_cons.mpr ⟨lm_t1 _ (List.mem_of_getElem? (i := 79) rfl), List.forall_mem_cons.mpr ⟨lm_t1 _ (List.mem_of_getElem? (i := 81) rfl), fun _ h => absurd h List.not_mem_nil⟩⟩⟩⟩
theorem in_X6 : ∀ w ∈ u_ws RX6 TX6 8, w ∈ lw_tbl := List.forall_mem_cons.mpr ⟨lm_t1 _ (List.mem_of_getElem? (i := 121) rfl), List.forall_mem_cons.mpr ⟨lm_t1 _ (List.mem_of_getElem? (i := 123) rfl), List.forall_mem_cons.mpr ⟨lm_t1 _ (List.mem_of_getElem? (i := 125) rfl), List.forall_mem_cons.mpr ⟨lm_t1 _ (List.mem_of_getElem? (i := 127) rfl), List.forall_mem_cons.mpr ⟨lm_t1 _ (List.mem_of_getElem? (i := 129) rfl), List.forall_mem_cons.mpr ⟨lm_t1 _ (List.mem_of_getElem? (i := 131) rfl), List.forall_mem_cons.mpr ⟨lm_t1 _ (List.mem_of_getElem? (i := 133) rfl), List.forall_mem_cons.mpr ⟨lm_t1 _ (List.mem_of_getElem? (i := 135) rfl), fun _ h => absurd h List.not_mem_nil⟩⟩⟩⟩⟩⟩⟩⟩
theorem in_X7 : ∀ w ∈ u_ws RX7 TX7 6, w ∈ lw_tbl := List.forall_mem_cons.mpr ⟨lm_t1 _ (List.mem_of_getElem? (i := 197) rfl), List.forall_mem_cons.mpr ⟨lm_t1 _ (List.mem_of_getElem? (i := 199) rfl), List.forall_mem_cons.mpr ⟨lm_t1 _ (List.mem_of_getElem? (i := 201) rfl), List.forall_mem_cons.mpr ⟨lm_t1 _ (List.mem_of_getElem? (i := 203) rfl), List.forall_mem_cons.mpr ⟨lm_t1 _ (List.mem_of_getElem? (i := 205) rfl), List.forall_mem_cons.mpr ⟨lm_t1 _ (List.mem_of_getElem? (i := 207) rfl), fun _ h => absurd h List.not_mem_nil⟩⟩⟩⟩⟩⟩
theorem in_X8 : ∀ w ∈ u_ws RX8 TX8 6, w ∈ lw_tbl := List.forall_mem_cons.mpr ⟨lm_t1 _ (List.mem_of_getElem? (i := 172) rfl), List.forall_mem_cons.mpr ⟨lm_t1 _ (List.mem_of_getElem? (i := 174) rfl), List.forall_mem_cons.mpr ⟨lm_t1 _ (List.mem_of_getElem? (i := 176) rfl), List.forall_mem_cons.mpr ⟨lm_t1 _ (List.mem_of_getElem? (i := 178) rfl), List.forall_mem_cons.mpr ⟨lm_t1 _ (List.mem_of_getElem? (i := 180) rfl), List.forall_mem_cons.mpr ⟨lm_t1 _ (List.mem_of_getElem? (i := 182) rfl), fun _ h => absurd h List.not_mem_nil⟩⟩⟩⟩⟩⟩
theorem in_X9 : ∀ w ∈ u_ws RX9 TX9 6, w ∈ lw_tbl := List.forall_mem_cons.mpr ⟨lm_t2 _ (List.mem_of_getElem? (i := 32) rfl), List.forall_mem_cons.mpr ⟨lm_t2 _ (List.mem_of_getElem? (i := 34) rfl), List.forall_mem_cons.mpr ⟨lm_t2 _ (List.mem_of_getElem? (i := 36) rfl), List.forall_mem_cons.mpr ⟨lm_t2 _ (List.mem_of_getElem? (i := 38) rfl), List.forall_mem_cons.mpr ⟨lm_t2 _ (List.mem_of_getElem? (i := 40) rfl), List.forall_mem_cons.mpr ⟨lm_t2 _ (List.mem_of_getElem? (i := 42) rfl), fun _ h => absurd h List.not_mem_nil⟩⟩⟩⟩⟩⟩
theorem in_X10 : ∀ w ∈ u_ws RX10 TX10 14, w ∈ lw_tbl := List.forall_mem_cons.mpr ⟨lm_t2 _ (List.mem_of_getElem? (i := 60) rfl), List.forall_mem_cons.mpr ⟨lm_t2 _ (List.mem_of_getElem? (i := 62) rfl), List.forall_mem_cons.mpr ⟨lm_t2 _ (List.mem_of_getElem? (i := 64) rfl), List.forall_mem_cons.mpr ⟨lm_t2 _ (List.mem_of_getElem? (i := 66) rfl), List.forall_mem_cons.mpr ⟨lm_t2 _ (List.mem_of_getElem? (i := 68) rfl), List.forall_mem_cons.mpr ⟨lm_t2 _ (List.mem_of_getElem? (i := 70) rfl), List.forall_mem_cons.mpr ⟨lm_t2 _ (List.mem_of_getElem? (i := 72) rfl), List.forall_mem_cons.mpr ⟨lm_t2 _ (List.mem_of_getElem? (i := 74) rfl), List.forall_mem_cons.mpr ⟨lm_t2 _ (List.mem_of_getElem? (i := 76) rfl), List.forall_mem_cons.mpr ⟨lm_t2 _ (List.mem_of_getElem? (i := 78) rfl), List.forall_mem_cons.mpr ⟨lm_t2 _ (List.mem_of_getElem? (i := 80) rfl), List.forall_mem_cons.mpr ⟨lm_t2 _ (List.mem_of_getElem? (i := 82) rfl), List.forall_mem_cons.mpr ⟨lm_t2 _ (List.mem_of_getElem? (i := 84) rfl), List.forall_mem_cons.mpr ⟨lm_t2 _ (List.mem_of_getElem? (i := 86) rfl), fun _ h => absurd h List.not_mem_nil⟩⟩⟩⟩⟩⟩⟩⟩⟩⟩⟩⟩⟩⟩
theorem in_X11 : ∀ w ∈ u_ws RX11 TX11 33, w ∈ lw_tbl := List.forall_mem_cons.mpr ⟨lm_t4 _ (List.mem_of_getElem? (i := 149) rfl), List.forall_mem_cons.mpr ⟨lm_t4 _ (List.mem_of_getElem? (i := 151) rfl), List.forall_mem_cons.mpr ⟨lm_t4 _ (List.mem_of_getElem? (i := 153) rfl), List.forall_mem_cons.mpr ⟨lm_t4 _ (List.mem_of_getElem? (i := 155) rfl), List.forall_mem_cons.mpr ⟨lm_t4 _ (List.mem_of_getElem? (i := 157) rfl), List.forall_mem_cons.mpr ⟨lm_t4 _ (List.mem_of_getElem? (i := 159) rfl), List.forall_mem_cons.mpr ⟨lm_t4 _ (List.mem_of_getElem? (i := 161) rfl), List.forall_mem_cons.mpr ⟨lm_t4 _ (List.mem_of_getElem? (i := 163) rfl), List.forall_mem_cons.mpr ⟨lm_t4 _ (List.mem_of_getElem? (i := 165) rfl), List.forall_mem_cons.mpr ⟨lm_t4 _ (List.mem_of_getElem? (i := 167) rfl), List.forall_mem_cons.mpr ⟨lm_t4 _ (List.mem_of_getElem? (i := 169) rfl), List.forall_mem_cons.mpr ⟨lm_t4 _ (List.mem_of_getElem? (i := 171) rfl), List.forall_mem_cons.mpr ⟨lm_t4 _ (List.mem_of_getElem? (i := 173) rfl), List.forall_mem_cons.mpr ⟨lm_t4 _ (List.mem_of_getElem? (i := 175) rfl), List.forall_mem_cons.mpr ⟨lm_t4 _ (List.mem_of_getElem? (i := 177) rfl), List.forall_mem_cons.mpr ⟨lm_t4 _ (List.mem_of_getElem? (i := 179) rfl), List.forall_mem_cons.mpr ⟨lm_t4 _ (List.mem_of_getElem? (i := 181) rfl), List.forall_mem_cons.mpr ⟨lm_t4 _ (List.mem_of_getElem? (i := 183) rfl), List.forall_mem_cons.mpr ⟨lm_t4 _ (List.mem_of_getElem? (i := 185) rfl), List.forall_mem_cons.mpr ⟨lm_t4 _ (List.mem_of_getElem? (i := 187) rfl), List.forall_mem_cons.mpr ⟨lm_t4 _ (List.mem_of_getElem? (i := 189) rfl), List.forall_mem_cons.mpr ⟨lm_t4 _ (List.mem_of_getElem? (i := 191) rfl), List.forall_mem_cons.mpr ⟨lm_t4 _ (List.mem_of_getElem? (i := 193) rfl), List.forall_mem_cons.mpr ⟨lm_t4 _ (List.mem_of_getElem? (i := 195) rfl), List.forall_mem_cons.mpr ⟨lm_t4 _ (List.mem_of_getElem? (i := 197) rfl), List.forall_mem_cons.mpr ⟨lm_t4 _ (List.mem_of_getElem? (i := 199) rfl), List.forall_mem_cons.mpr ⟨lm_t4 _ (List.mem_of_getElem? (i := 201) rfl), List.forall_mem_cons.mpr ⟨lm_t4 _ (List.mem_of_getElem? (i := 203) rfl), List.forall_mem_cons.mpr ⟨lm_t4 _ (List.mem_of_getElem? (i := 205) rfl), List.forall_mem_cons.mpr ⟨lm_t4 _ (List.mem_of_getElem? (i := 207) rfl), List.forall_mem_cons.mpr ⟨lm_t4 _ (List.mem_of_getElem? (i := 209) rfl), List.forall_mem_cons.mpr ⟨lm_t4 _ (List.mem_of_getElem? (i := 211) rfl), List.forall_mem_cons.mpr ⟨lm_t4 _ (List.mem_of_getElem? (i := 213) rfl), fun _ h => absurd h List.not_mem_nil⟩⟩⟩⟩⟩⟩⟩⟩⟩⟩⟩⟩⟩⟩⟩⟩⟩⟩⟩⟩⟩⟩⟩⟩⟩⟩⟩⟩⟩⟩⟩⟩⟩
theorem pn_X0 : plainName RX0 = true ∧ RX0 ≠ "java/lang/invoke/MethodHandle" ∧ RX0 ≠ "java/lang/invoke/VarHandle" := ⟨by decide +kernel, by decide +kernel, by decide +kernel⟩
theorem pn_X1 : plainName RX1 = true ∧ RX1 ≠ "java/lang/invoke/MethodHandle" ∧ RX1 ≠ "java/lang/invoke/VarHandle" := ⟨by decide +kernel, by decide +kernel, by decide +kernel⟩
theorem pn_X2 : plainName RX2 = true ∧ RX2 ≠ "java/lang/invoke/MethodHandle" ∧ RX2 ≠ "java/lang/invoke/VarHandle" := ⟨by decide +kernel, by decide +kernel, by decide +kernel⟩
theorem pn_X3 : plainName RX3 = true ∧ RX3 ≠ "java/lang/invoke/MethodHandle" ∧ RX3 ≠ "java/lang/invoke/VarHandle" := ⟨by decide +kernel, by decide +kernel, by decide +kernel⟩
theorem pn_X4 : plainName RX4 = true ∧ RX4 ≠ "java/lang/invoke/MethodHandle" ∧ RX4 ≠ "java/lang/invoke/VarHandle" := ⟨by decide +kernel, by decide +kernel, by decide +kernel⟩
theorem pn_X5 : plainName RX5 = true ∧ RX5 ≠ "java/lang/invoke/MethodHandle" ∧ RX5 ≠ "java/lang/invoke/VarHandle" := ⟨by decide +kernel, by decide +kernel, by decide +kernel⟩
theorem pn_X6 : plainName RX6 = true ∧ RX6 ≠ "java/lang/invoke/MethodHandle" ∧ RX6 ≠ "java/lang/invoke/VarHandle" := ⟨by decide +kernel, by decide +kernel, by decide +kernel⟩
theorem pn_X7 : plainName RX7 = true ∧ RX7 ≠ "java/lang/invoke/MethodHandle" ∧ RX7 ≠ "java/lang/invoke/VarHandle" := ⟨by decide +kernel, by decide +kernel, by decide +kernel⟩
theorem pn_X8 : plainName RX8 = true ∧ RX8 ≠ "java/lang/invoke/MethodHandle" ∧ RX8 ≠ "java/lang/invoke/VarHandle" := ⟨by decide +kernel, by decide +kernel, by decide +kernel⟩
theorem pn_X9 : plainName RX9 = true ∧ RX9 ≠ "java/lang/invoke/MethodHandle" ∧ RX9 ≠ "java/lang/invoke/VarHandle" := ⟨by decide +kernel, by decide +kernel, by decide +kernel⟩
theorem pn_X10 : plainName RX10 = true ∧ RX10 ≠ "java/lang/invoke/MethodHandle" ∧ RX10 ≠ "java/lang/invoke/VarHandle" := ⟨by decide +kernel, by decide +kernel, by decide +kernel⟩
theorem pn_X11 : plainName RX11 = true ∧ RX11 ≠ "java/lang/invoke/MethodHandle" ∧ RX11 ≠ "java/lang/invoke/VarHandle" := ⟨by decide +kernel, by decide +kernel, by decide +kernel⟩
theorem pn_J6 : plainName RJ6 = true ∧ RJ6 ≠ "java/lang/invoke/MethodHandle" ∧ RJ6 ≠ "java/lang/invoke/VarHandle" := ⟨by decide +kernel, by decide +kernel, by decide +kernel⟩
theorem pn_J9 : plainName RJ9 = false ∧ RJ9 ≠ "java/lang/invoke/MethodHandle" ∧ RJ9 ≠ "java/lang/invoke/VarHandle" := ⟨by decide +kernel, by decide +kernel, by decide +kernel⟩
theorem pn_J7 : plainName RJ7 = true ∧ RJ7 ≠ "java/lang/invoke/MethodHandle" ∧ RJ7 ≠ "java/lang/invoke/VarHandle" := ⟨by decide +kernel, by decide +kernel, by decide +kernel⟩
/-- the class: 0 PlaneCuts, 1 now, 2 its row, 3 before, 4 its row, 5 history, 6 ring, 7 .. 18 its six arrangements and their rows, 19 matroid, 20 matrix, 21 cells, 22 ranks, 23 flat, 24 circuits, 25 their sets, 26 picked, 27 its sets, 28 factors, 29 regions, 30 real, 31 galleries, 32 listing, 33 its sets, 34 modularFlats, 35 modular, 36 leads, 37 links, 38 fields, 39 matrix, 40 cells, 41 point, 42 algebra, 43 broken, 44 sum, 45 picked, 46 its sets, 47 script, 48 bytes, 49 verbs, 50 numbers -/
def shX : List amSh := [.inr (10, [.ref 1, .ref 3, .ref 5, .ref 19, .ref 29, .ref 34, .ref 38, .ref 42, .ref 47, .int 0, .int 0, .int 0, .int 0, .int 0]),
  .inr (1, [.ref 2, .int 0, .int 0, .int 0]),
  .inl (36, .int, []),
  .inr (1, [.ref 4, .int 0, .int 0, .int 0]),
  .inl (36, .int, []),
  .inr (3, [.ref 6, .int 0, .int 0]),
  .inl (6, .object "PlaneCuts$Arrangement", [7, 9, 11, 13, 15, 17]),
  .inr (1, [.ref 8, .int 0, .int 0, .int 0]),
  .inl (36, .int, []),
  .inr (1, [.ref 10, .int 0, .int 0, .int 0]),
  .inl (36, .int, []),
  .inr (1, [.ref 12, .int 0, .int 0, .int 0]),
  .inl (36, .int, []),
  .inr (1, [.ref 14, .int 0, .int 0, .int 0]),
  .inl (36, .int, []),
  .inr (1, [.ref 16, .int 0, .int 0, .int 0]),
  .inl (36, .int, []),
  .inr (1, [.ref 18, .int 0, .int 0, .int 0]),
  .inl (36, .int, []),
  .inr (6, [.ref 1, .ref 20, .ref 22, .ref 23, .ref 24, .ref 26, .ref 28, .int 0]),
  .inr (5, [.ref 21, .int 0, .int 0, .int 0]),
  .inl (45, .long, []),
  .inl (512, .int, []),
  .inl (512, .boolean, []),
  .inr (4, [.ref 25, .int 0]),
  .inl (126, .int, []),
  .inr (4, [.ref 27, .int 0]),
  .inl (126, .int, []),
  .inl (9, .int, []),
  .inr (8, [.ref 1, .ref 19, .ref 30, .ref 31, .ref 32, .int 0]),
  .inl (512, .boolean, []),
  .inl (512, .int, []),
  .inr (4, [.ref 33, .int 0]),
  .inl (186, .int, []),
  .inr (7, [.ref 1, .ref 19, .ref 35, .ref 36, .ref 37, .int 0]),
  .inl (512, .boolean, []),
  .inl (512, .boolean, []),
  .inl (5, .int, []),
  .inr (2, [.ref 1, .ref 19, .ref 39, .ref 41]),
  .inr (5, [.ref 40, .int 0, .int 0, .int 0]),
  .inl (45, .long, []),
  .inl (4, .int, []),
  .inr (0, [.ref 1, .ref 19, .ref 43, .ref 44, .ref 45, .int 0]),
  .inl (512, .int, []),
  .inl (512, .int, []),
  .inr (4, [.ref 46, .int 0]),
  .inl (126, .int, []),
  .inr (9, [.ref 48, .ref 49, .ref 50, .int 0, .int 0, .int 0]),
  .inl (100, .byte, []),
  .inl (34, .int, []),
  .inl (136, .int, [])]
/-- the reference: 0 the object; its rows: 1 now, 2 held, 3 past, 4 refused, 5 text, 6 ranks, 7 work, 8 ring, 9 above, 10 factors, 11 column, 12 grid, 13 told, 14 signs, 15 steps, 16 ways, 17 row, 18 goesOn, 19 links, 20 times, 21 letters, 22 numbers -/
def shM : List amSh := [.inr (11, [.ref 1, .ref 2, .ref 3, .int 0, .ref 4, .ref 5, .int 0, .int 0, .int 0, .int 0, .ref 6, .ref 7, .int 0, .ref 8, .ref 9, .ref 10, .ref 11, .ref 12, .int 0, .ref 13, .ref 14, .ref 15, .ref 16, .ref 17, .ref 18, .ref 19, .ref 20, .int 0, .int 0, .int 0, .ref 21, .ref 22, .long 0]),
  .inl (38, .int, []),
  .inl (38, .int, []),
  .inl (228, .int, []),
  .inl (3, .int, []),
  .inl (100, .int, []),
  .inl (512, .int, []),
  .inl (36, .long, []),
  .inl (400, .int, []),
  .inl (400, .int, []),
  .inl (9, .long, []),
  .inl (9, .int, []),
  .inl (20, .long, []),
  .inl (4, .int, []),
  .inl (512, .int, []),
  .inl (512, .int, []),
  .inl (512, .int, []),
  .inl (512, .int, []),
  .inl (512, .boolean, []),
  .inl (5, .int, []),
  .inl (512, .int, []),
  .inl (50, .int, []),
  .inl (200, .int, [])]
def mX0_refresh : amM := (yX0_refresh, cX0_refresh, 4, none, 4, 104)
theorem nv_X0_refresh : am_NV mX0_refresh 0 0 := ⟨pn_X0.1, lm_t4 _ (List.mem_of_getElem? (i := 8) rfl), lm_t1 _ (List.mem_of_getElem? (i := 11) rfl), ⟨pn_X0.2.1, pn_X0.2.2, by decide +kernel⟩, lm_t4 _ (List.mem_of_getElem? (i := 7) rfl), lm_s2 _ (List.mem_of_getElem? (i := 6) rfl), TX0, 6, rfl⟩
def mX0_baseSetsOfSize : amM := (yX0_baseSetsOfSize, cX0_baseSetsOfSize, 3, (some (.object "PlaneCuts$Listing")), 5, 127)
theorem nv_X0_baseSetsOfSize : am_NV mX0_baseSetsOfSize 0 1 := ⟨pn_X0.1, lm_t4 _ (List.mem_of_getElem? (i := 4) rfl), lm_t1 _ (List.mem_of_getElem? (i := 11) rfl), ⟨pn_X0.2.1, pn_X0.2.2, by decide +kernel⟩, lm_t4 _ (List.mem_of_getElem? (i := 2) rfl), lm_t4 _ (List.mem_of_getElem? (i := 3) rfl), TX0, 6, rfl⟩
def mX0_partOf : amM := (yX0_partOf, cX0_partOf, 4, (some .int), 5, 127)
theorem nv_X0_partOf : am_NV mX0_partOf 0 2 := ⟨pn_X0.1, lm_t4 _ (List.mem_of_getElem? (i := 22) rfl), lm_t1 _ (List.mem_of_getElem? (i := 11) rfl), ⟨pn_X0.2.1, pn_X0.2.2, by decide +kernel⟩, lm_t4 _ (List.mem_of_getElem? (i := 20) rfl), lm_t4 _ (List.mem_of_getElem? (i := 21) rfl), TX0, 6, rfl⟩
def mX0_replace : amM := (yX0_replace, cX0_replace, 9, none, 1, 20)
theorem nv_X0_replace : am_NV mX0_replace 0 2 := ⟨pn_X0.1, lm_t4 _ (List.mem_of_getElem? (i := 26) rfl), lm_t1 _ (List.mem_of_getElem? (i := 11) rfl), ⟨pn_X0.2.1, pn_X0.2.2, by decide +kernel⟩, lm_t4 _ (List.mem_of_getElem? (i := 25) rfl), lm_s2 _ (List.mem_of_getElem? (i := 7) rfl), TX0, 6, rfl⟩
def mX1_all : amM := (yX1_all, cX1_all, 1, (some .int), 0, 0)
theorem nv_X1_all : am_NV mX1_all 1 0 := ⟨pn_X1.1, lm_t2 _ (List.mem_of_getElem? (i := 170) rfl), lm_t1 _ (List.mem_of_getElem? (i := 2) rfl), ⟨pn_X1.2.1, pn_X1.2.2, by decide +kernel⟩, lm_t2 _ (List.mem_of_getElem? (i := 168) rfl), lm_t2 _ (List.mem_of_getElem? (i := 169) rfl), TX1, 4, rfl⟩
def mX1_has : amM := (yX1_has, cX1_has, 2, (some .boolean), 0, 0)
theorem nv_X1_has : am_NV mX1_has 1 1 := ⟨pn_X1.1, lm_t2 _ (List.mem_of_getElem? (i := 154) rfl), lm_t1 _ (List.mem_of_getElem? (i := 2) rfl), ⟨pn_X1.2.1, pn_X1.2.2, by decide +kernel⟩, lm_t2 _ (List.mem_of_getElem? (i := 152) rfl), lm_t2 _ (List.mem_of_getElem? (i := 153) rfl), TX1, 4, rfl⟩
def mX1_hasAll : amM := (yX1_hasAll, cX1_hasAll, 2, (some .boolean), 1, 20)
theorem nv_X1_hasAll : am_NV mX1_hasAll 1 1 := ⟨pn_X1.1, lm_t3 _ (List.mem_of_getElem? (i := 32) rfl), lm_t1 _ (List.mem_of_getElem? (i := 2) rfl), ⟨pn_X1.2.1, pn_X1.2.2, by decide +kernel⟩, lm_t3 _ (List.mem_of_getElem? (i := 30) rfl), lm_t3 _ (List.mem_of_getElem? (i := 31) rfl), TX1, 4, rfl⟩
def mX1_at : amM := (yX1_at, cX1_at, 3, (some .int), 0, 0)
theorem nv_X1_at : am_NV mX1_at 1 2 := ⟨pn_X1.1, lm_t2 _ (List.mem_of_getElem? (i := 138) rfl), lm_t1 _ (List.mem_of_getElem? (i := 2) rfl), ⟨pn_X1.2.1, pn_X1.2.2, by decide +kernel⟩, lm_t2 _ (List.mem_of_getElem? (i := 136) rfl), lm_t2 _ (List.mem_of_getElem? (i := 137) rfl), TX1, 4, rfl⟩
def mX1_copyFrom : amM := (yX1_copyFrom, cX1_copyFrom, 2, none, 1, 30)
theorem nv_X1_copyFrom : am_NV mX1_copyFrom 1 1 := ⟨pn_X1.1, lm_t2 _ (List.mem_of_getElem? (i := 96) rfl), lm_t1 _ (List.mem_of_getElem? (i := 2) rfl), ⟨pn_X1.2.1, pn_X1.2.2, by decide +kernel⟩, lm_t2 _ (List.mem_of_getElem? (i := 94) rfl), lm_t2 _ (List.mem_of_getElem? (i := 95) rfl), TX1, 4, rfl⟩
def mX1_restart : amM := (yX1_restart, cX1_restart, 3, (some .int), 0, 0)
theorem nv_X1_restart : am_NV mX1_restart 1 1 := ⟨pn_X1.1, lm_t2 _ (List.mem_of_getElem? (i := 103) rfl), lm_t1 _ (List.mem_of_getElem? (i := 2) rfl), ⟨pn_X1.2.1, pn_X1.2.2, by decide +kernel⟩, lm_t2 _ (List.mem_of_getElem? (i := 101) rfl), lm_t2 _ (List.mem_of_getElem? (i := 102) rfl), TX1, 4, rfl⟩
def mX1_add : amM := (yX1_add, cX1_add, 6, (some .int), 2, 51)
theorem nv_X1_add : am_NV mX1_add 1 4 := ⟨pn_X1.1, lm_t2 _ (List.mem_of_getElem? (i := 127) rfl), lm_t1 _ (List.mem_of_getElem? (i := 2) rfl), ⟨pn_X1.2.1, pn_X1.2.2, by decide +kernel⟩, lm_t2 _ (List.mem_of_getElem? (i := 125) rfl), lm_t2 _ (List.mem_of_getElem? (i := 126) rfl), TX1, 4, rfl⟩
def mX1_isCoefficient : amM := (yX1_isCoefficient, cX1_isCoefficient, 1, (some .boolean), 0, 0)
theorem ns_X1_isCoefficient : am_NS mX1_isCoefficient 1 := ⟨pn_X1.1, lm_t2 _ (List.mem_of_getElem? (i := 130) rfl), lm_t1 _ (List.mem_of_getElem? (i := 2) rfl), ⟨pn_X1.2.1, pn_X1.2.2, by decide +kernel⟩, lm_t2 _ (List.mem_of_getElem? (i := 129) rfl)⟩
def mX1_isSame : amM := (yX1_isSame, cX1_isSame, 10, (some .boolean), 1, 22)
theorem nv_X1_isSame : am_NV mX1_isSame 1 5 := ⟨pn_X1.1, lm_t2 _ (List.mem_of_getElem? (i := 134) rfl), lm_t1 _ (List.mem_of_getElem? (i := 2) rfl), ⟨pn_X1.2.1, pn_X1.2.2, by decide +kernel⟩, lm_t2 _ (List.mem_of_getElem? (i := 133) rfl), lm_s1 _ (List.mem_of_getElem? (i := 2) rfl), TX1, 4, rfl⟩
def mX1_put : amM := (yX1_put, cX1_put, 6, (some .int), 0, 0)
theorem nv_X1_put : am_NV mX1_put 1 4 := ⟨pn_X1.1, lm_t2 _ (List.mem_of_getElem? (i := 142) rfl), lm_t1 _ (List.mem_of_getElem? (i := 2) rfl), ⟨pn_X1.2.1, pn_X1.2.2, by decide +kernel⟩, lm_t2 _ (List.mem_of_getElem? (i := 141) rfl), lm_s1 _ (List.mem_of_getElem? (i := 3) rfl), TX1, 4, rfl⟩
def mX1_negate : amM := (yX1_negate, cX1_negate, 3, (some .int), 1, 22)
theorem nv_X1_negate : am_NV mX1_negate 1 1 := ⟨pn_X1.1, lm_t2 _ (List.mem_of_getElem? (i := 150) rfl), lm_t1 _ (List.mem_of_getElem? (i := 2) rfl), ⟨pn_X1.2.1, pn_X1.2.2, by decide +kernel⟩, lm_t2 _ (List.mem_of_getElem? (i := 148) rfl), lm_t2 _ (List.mem_of_getElem? (i := 149) rfl), TX1, 4, rfl⟩
def mX1_remove : amM := (yX1_remove, cX1_remove, 4, (some .int), 1, 30)
theorem nv_X1_remove : am_NV mX1_remove 1 1 := ⟨pn_X1.1, lm_t2 _ (List.mem_of_getElem? (i := 229) rfl), lm_t1 _ (List.mem_of_getElem? (i := 2) rfl), ⟨pn_X1.2.1, pn_X1.2.2, by decide +kernel⟩, lm_t2 _ (List.mem_of_getElem? (i := 227) rfl), lm_t2 _ (List.mem_of_getElem? (i := 228) rfl), TX1, 4, rfl⟩
def mX1_exchange : amM := (yX1_exchange, cX1_exchange, 5, (some .int), 1, 22)
theorem nv_X1_exchange : am_NV mX1_exchange 1 2 := ⟨pn_X1.1, lm_t2 _ (List.mem_of_getElem? (i := 237) rfl), lm_t1 _ (List.mem_of_getElem? (i := 2) rfl), ⟨pn_X1.2.1, pn_X1.2.2, by decide +kernel⟩, lm_t2 _ (List.mem_of_getElem? (i := 235) rfl), lm_t2 _ (List.mem_of_getElem? (i := 236) rfl), TX1, 4, rfl⟩
def mX1_fill : amM := (yX1_fill, cX1_fill, 3, (some .int), 3, 73)
theorem nv_X1_fill : am_NV mX1_fill 1 1 := ⟨pn_X1.1, lm_t3 _ (List.mem_of_getElem? (i := 10) rfl), lm_t1 _ (List.mem_of_getElem? (i := 2) rfl), ⟨pn_X1.2.1, pn_X1.2.2, by decide +kernel⟩, lm_t3 _ (List.mem_of_getElem? (i := 8) rfl), lm_t3 _ (List.mem_of_getElem? (i := 9) rfl), TX1, 4, rfl⟩
def mX1_putPairs : amM := (yX1_putPairs, cX1_putPairs, 4, none, 2, 50)
theorem nv_X1_putPairs : am_NV mX1_putPairs 1 1 := ⟨pn_X1.1, lm_t3 _ (List.mem_of_getElem? (i := 18) rfl), lm_t1 _ (List.mem_of_getElem? (i := 2) rfl), ⟨pn_X1.2.1, pn_X1.2.2, by decide +kernel⟩, lm_t3 _ (List.mem_of_getElem? (i := 17) rfl), lm_s1 _ (List.mem_of_getElem? (i := 12) rfl), TX1, 4, rfl⟩
def mX1_putPair : amM := (yX1_putPair, cX1_putPair, 6, none, 1, 25)
theorem nv_X1_putPair : am_NV mX1_putPair 1 4 := ⟨pn_X1.1, lm_t3 _ (List.mem_of_getElem? (i := 14) rfl), lm_t1 _ (List.mem_of_getElem? (i := 2) rfl), ⟨pn_X1.2.1, pn_X1.2.2, by decide +kernel⟩, lm_t3 _ (List.mem_of_getElem? (i := 13) rfl), lm_s1 _ (List.mem_of_getElem? (i := 11) rfl), TX1, 4, rfl⟩
def mX2_countFreePoints : amM := (yX2_countFreePoints, cX2_countFreePoints, 6, (some .int), 2, 46)
theorem nv_X2_countFreePoints : am_NV mX2_countFreePoints 2 1 := ⟨pn_X2.1, lm_t3 _ (List.mem_of_getElem? (i := 214) rfl), lm_t1 _ (List.mem_of_getElem? (i := 10) rfl), ⟨pn_X2.2.1, pn_X2.2.2, by decide +kernel⟩, lm_t3 _ (List.mem_of_getElem? (i := 212) rfl), lm_t3 _ (List.mem_of_getElem? (i := 213) rfl), TX2, 4, rfl⟩
def mX2_setPoint : amM := (yX2_setPoint, cX2_setPoint, 5, none, 0, 0)
theorem nv_X2_setPoint : am_NV mX2_setPoint 2 2 := ⟨pn_X2.1, lm_t3 _ (List.mem_of_getElem? (i := 218) rfl), lm_t1 _ (List.mem_of_getElem? (i := 10) rfl), ⟨pn_X2.2.1, pn_X2.2.2, by decide +kernel⟩, lm_t3 _ (List.mem_of_getElem? (i := 217) rfl), lm_s2 _ (List.mem_of_getElem? (i := 4) rfl), TX2, 4, rfl⟩
def mX2_isFree : amM := (yX2_isFree, cX2_isFree, 5, (some .boolean), 1, 22)
theorem nv_X2_isFree : am_NV mX2_isFree 2 1 := ⟨pn_X2.1, lm_t3 _ (List.mem_of_getElem? (i := 222) rfl), lm_t1 _ (List.mem_of_getElem? (i := 10) rfl), ⟨pn_X2.2.1, pn_X2.2.2, by decide +kernel⟩, lm_t3 _ (List.mem_of_getElem? (i := 221) rfl), lm_s2 _ (List.mem_of_getElem? (i := 5) rfl), TX2, 4, rfl⟩
def mX2_isGood : amM := (yX2_isGood, cX2_isGood, 5, (some .boolean), 5, 125)
theorem nv_X2_isGood : am_NV mX2_isGood 2 1 := ⟨pn_X2.1, lm_t3 _ (List.mem_of_getElem? (i := 227) rfl), lm_t1 _ (List.mem_of_getElem? (i := 10) rfl), ⟨pn_X2.2.1, pn_X2.2.2, by decide +kernel⟩, lm_t3 _ (List.mem_of_getElem? (i := 225) rfl), lm_t3 _ (List.mem_of_getElem? (i := 226) rfl), TX2, 4, rfl⟩
def mX3_keep : amM := (yX3_keep, cX3_keep, 2, none, 2, 51)
theorem nv_X3_keep : am_NV mX3_keep 3 1 := ⟨pn_X3.1, lm_t2 _ (List.mem_of_getElem? (i := 115) rfl), lm_t1 _ (List.mem_of_getElem? (i := 7) rfl), ⟨pn_X3.2.1, pn_X3.2.2, by decide +kernel⟩, lm_t2 _ (List.mem_of_getElem? (i := 113) rfl), lm_t2 _ (List.mem_of_getElem? (i := 114) rfl), TX3, 3, rfl⟩
def mX3_restore : amM := (yX3_restore, cX3_restore, 2, (some .boolean), 2, 51)
theorem nv_X3_restore : am_NV mX3_restore 3 1 := ⟨pn_X3.1, lm_t4 _ (List.mem_of_getElem? (i := 90) rfl), lm_t1 _ (List.mem_of_getElem? (i := 7) rfl), ⟨pn_X3.2.1, pn_X3.2.2, by decide +kernel⟩, lm_t4 _ (List.mem_of_getElem? (i := 88) rfl), lm_t4 _ (List.mem_of_getElem? (i := 89) rfl), TX3, 3, rfl⟩
def mX4_append : amM := (yX4_append, cX4_append, 2, none, 0, 0)
theorem nv_X4_append : am_NV mX4_append 4 1 := ⟨pn_X4.1, lm_t2 _ (List.mem_of_getElem? (i := 214) rfl), lm_t1 _ (List.mem_of_getElem? (i := 5) rfl), ⟨pn_X4.2.1, pn_X4.2.2, by decide +kernel⟩, lm_t2 _ (List.mem_of_getElem? (i := 212) rfl), lm_t2 _ (List.mem_of_getElem? (i := 213) rfl), TX4, 2, rfl⟩
def mX4_answer : amM := (yX4_answer, cX4_answer, 2, (some .int), 0, 0)
theorem nv_X4_answer : am_NV mX4_answer 4 1 := ⟨pn_X4.1, lm_t3 _ (List.mem_of_getElem? (i := 53) rfl), lm_t1 _ (List.mem_of_getElem? (i := 5) rfl), ⟨pn_X4.2.1, pn_X4.2.2, by decide +kernel⟩, lm_t3 _ (List.mem_of_getElem? (i := 51) rfl), lm_t3 _ (List.mem_of_getElem? (i := 52) rfl), TX4, 2, rfl⟩
def mX5_load : amM := (yX5_load, cX5_load, 5, none, 1, 22)
theorem nv_X5_load : am_NV mX5_load 5 2 := ⟨pn_X5.1, lm_t2 _ (List.mem_of_getElem? (i := 185) rfl), lm_t1 _ (List.mem_of_getElem? (i := 4) rfl), ⟨pn_X5.2.1, pn_X5.2.2, by decide +kernel⟩, lm_t2 _ (List.mem_of_getElem? (i := 183) rfl), lm_t2 _ (List.mem_of_getElem? (i := 184) rfl), TX5, 4, rfl⟩
def mX5_trace : amM := (yX5_trace, cX5_trace, 3, none, 0, 0)
theorem nv_X5_trace : am_NV mX5_trace 5 0 := ⟨pn_X5.1, lm_t3 _ (List.mem_of_getElem? (i := 85) rfl), lm_t1 _ (List.mem_of_getElem? (i := 4) rfl), ⟨pn_X5.2.1, pn_X5.2.2, by decide +kernel⟩, lm_t3 _ (List.mem_of_getElem? (i := 83) rfl), lm_t3 _ (List.mem_of_getElem? (i := 84) rfl), TX5, 4, rfl⟩
def mX5_traceInLast : amM := (yX5_traceInLast, cX5_traceInLast, 2, (some .long), 0, 0)
theorem nv_X5_traceInLast : am_NV mX5_traceInLast 5 1 := ⟨pn_X5.1, lm_t3 _ (List.mem_of_getElem? (i := 89) rfl), lm_t1 _ (List.mem_of_getElem? (i := 4) rfl), ⟨pn_X5.2.1, pn_X5.2.2, by decide +kernel⟩, lm_t3 _ (List.mem_of_getElem? (i := 87) rfl), lm_t3 _ (List.mem_of_getElem? (i := 88) rfl), TX5, 4, rfl⟩
def mX5_reduce : amM := (yX5_reduce, cX5_reduce, 5, (some .int), 1, 31)
theorem nv_X5_reduce : am_NV mX5_reduce 5 1 := ⟨pn_X5.1, lm_t2 _ (List.mem_of_getElem? (i := 190) rfl), lm_t1 _ (List.mem_of_getElem? (i := 4) rfl), ⟨pn_X5.2.1, pn_X5.2.2, by decide +kernel⟩, lm_t2 _ (List.mem_of_getElem? (i := 188) rfl), lm_t2 _ (List.mem_of_getElem? (i := 189) rfl), TX5, 4, rfl⟩
def mX5_takeRemainders : amM := (yX5_takeRemainders, cX5_takeRemainders, 3, none, 0, 0)
theorem nv_X5_takeRemainders : am_NV mX5_takeRemainders 5 1 := ⟨pn_X5.1, lm_t2 _ (List.mem_of_getElem? (i := 194) rfl), lm_t1 _ (List.mem_of_getElem? (i := 4) rfl), ⟨pn_X5.2.1, pn_X5.2.2, by decide +kernel⟩, lm_t2 _ (List.mem_of_getElem? (i := 193) rfl), lm_s1 _ (List.mem_of_getElem? (i := 5) rfl), TX5, 4, rfl⟩
def mX5_bringUp : amM := (yX5_bringUp, cX5_bringUp, 7, (some .boolean), 0, 0)
theorem nv_X5_bringUp : am_NV mX5_bringUp 5 2 := ⟨pn_X5.1, lm_t2 _ (List.mem_of_getElem? (i := 198) rfl), lm_t1 _ (List.mem_of_getElem? (i := 4) rfl), ⟨pn_X5.2.1, pn_X5.2.2, by decide +kernel⟩, lm_t2 _ (List.mem_of_getElem? (i := 197) rfl), lm_s1 _ (List.mem_of_getElem? (i := 6) rfl), TX5, 4, rfl⟩
def mX5_strike : amM := (yX5_strike, cX5_strike, 12, none, 0, 0)
theorem nv_X5_strike : am_NV mX5_strike 5 4 := ⟨pn_X5.1, lm_t2 _ (List.mem_of_getElem? (i := 202) rfl), lm_t1 _ (List.mem_of_getElem? (i := 4) rfl), ⟨pn_X5.2.1, pn_X5.2.2, by decide +kernel⟩, lm_t2 _ (List.mem_of_getElem? (i := 201) rfl), lm_s1 _ (List.mem_of_getElem? (i := 7) rfl), TX5, 4, rfl⟩
def mX6_refresh : amM := (yX6_refresh, cX6_refresh, 4, none, 3, 81)
theorem nv_X6_refresh : am_NV mX6_refresh 6 0 := ⟨pn_X6.1, lm_t2 _ (List.mem_of_getElem? (i := 166) rfl), lm_t1 _ (List.mem_of_getElem? (i := 3) rfl), ⟨pn_X6.2.1, pn_X6.2.2, by decide +kernel⟩, lm_t2 _ (List.mem_of_getElem? (i := 164) rfl), lm_t2 _ (List.mem_of_getElem? (i := 165) rfl), TX6, 8, rfl⟩
def mX6_rankFromSubsets : amM := (yX6_rankFromSubsets, cX6_rankFromSubsets, 7, (some .int), 2, 55)
theorem nv_X6_rankFromSubsets : am_NV mX6_rankFromSubsets 6 1 := ⟨pn_X6.1, lm_t2 _ (List.mem_of_getElem? (i := 174) rfl), lm_t1 _ (List.mem_of_getElem? (i := 3) rfl), ⟨pn_X6.2.1, pn_X6.2.2, by decide +kernel⟩, lm_t2 _ (List.mem_of_getElem? (i := 173) rfl), lm_s1 _ (List.mem_of_getElem? (i := 4) rfl), TX6, 8, rfl⟩
def mX6_closureFromRanks : amM := (yX6_closureFromRanks, cX6_closureFromRanks, 4, (some .int), 0, 0)
theorem nv_X6_closureFromRanks : am_NV mX6_closureFromRanks 6 1 := ⟨pn_X6.1, lm_t2 _ (List.mem_of_getElem? (i := 206) rfl), lm_t1 _ (List.mem_of_getElem? (i := 3) rfl), ⟨pn_X6.2.1, pn_X6.2.2, by decide +kernel⟩, lm_t2 _ (List.mem_of_getElem? (i := 205) rfl), lm_s1 _ (List.mem_of_getElem? (i := 8) rfl), TX6, 8, rfl⟩
def mX6_isCircuit : amM := (yX6_isCircuit, cX6_isCircuit, 4, (some .boolean), 0, 0)
theorem nv_X6_isCircuit : am_NV mX6_isCircuit 6 2 := ⟨pn_X6.1, lm_t2 _ (List.mem_of_getElem? (i := 210) rfl), lm_t1 _ (List.mem_of_getElem? (i := 3) rfl), ⟨pn_X6.2.1, pn_X6.2.2, by decide +kernel⟩, lm_t2 _ (List.mem_of_getElem? (i := 209) rfl), lm_s1 _ (List.mem_of_getElem? (i := 9) rfl), TX6, 8, rfl⟩
def mX6_rankOf : amM := (yX6_rankOf, cX6_rankOf, 2, (some .int), 4, 104)
theorem nv_X6_rankOf : am_NV mX6_rankOf 6 1 := ⟨pn_X6.1, lm_t3 _ (List.mem_of_getElem? (i := 2) rfl), lm_t1 _ (List.mem_of_getElem? (i := 3) rfl), ⟨pn_X6.2.1, pn_X6.2.2, by decide +kernel⟩, lm_t3 _ (List.mem_of_getElem? (i := 0) rfl), lm_t3 _ (List.mem_of_getElem? (i := 1) rfl), TX6, 8, rfl⟩
def mX6_closureOf : amM := (yX6_closureOf, cX6_closureOf, 2, (some .int), 4, 104)
theorem nv_X6_closureOf : am_NV mX6_closureOf 6 1 := ⟨pn_X6.1, lm_t3 _ (List.mem_of_getElem? (i := 41) rfl), lm_t1 _ (List.mem_of_getElem? (i := 3) rfl), ⟨pn_X6.2.1, pn_X6.2.2, by decide +kernel⟩, lm_t3 _ (List.mem_of_getElem? (i := 39) rfl), lm_t3 _ (List.mem_of_getElem? (i := 40) rfl), TX6, 8, rfl⟩
def mX6_isFlat : amM := (yX6_isFlat, cX6_isFlat, 2, (some .boolean), 4, 104)
theorem nv_X6_isFlat : am_NV mX6_isFlat 6 1 := ⟨pn_X6.1, lm_t3 _ (List.mem_of_getElem? (i := 61) rfl), lm_t1 _ (List.mem_of_getElem? (i := 3) rfl), ⟨pn_X6.2.1, pn_X6.2.2, by decide +kernel⟩, lm_t3 _ (List.mem_of_getElem? (i := 59) rfl), lm_t3 _ (List.mem_of_getElem? (i := 60) rfl), TX6, 8, rfl⟩
def mX6_isIndependent : amM := (yX6_isIndependent, cX6_isIndependent, 2, (some .boolean), 4, 104)
theorem nv_X6_isIndependent : am_NV mX6_isIndependent 6 1 := ⟨pn_X6.1, lm_t3 _ (List.mem_of_getElem? (i := 234) rfl), lm_t1 _ (List.mem_of_getElem? (i := 3) rfl), ⟨pn_X6.2.1, pn_X6.2.2, by decide +kernel⟩, lm_t3 _ (List.mem_of_getElem? (i := 232) rfl), lm_t3 _ (List.mem_of_getElem? (i := 233) rfl), TX6, 8, rfl⟩
def mX6_flatsOfRank : amM := (yX6_flatsOfRank, cX6_flatsOfRank, 3, (some (.object "PlaneCuts$Listing")), 4, 104)
theorem nv_X6_flatsOfRank : am_NV mX6_flatsOfRank 6 1 := ⟨pn_X6.1, lm_t3 _ (List.mem_of_getElem? (i := 49) rfl), lm_t1 _ (List.mem_of_getElem? (i := 3) rfl), ⟨pn_X6.2.1, pn_X6.2.2, by decide +kernel⟩, lm_t3 _ (List.mem_of_getElem? (i := 47) rfl), lm_t3 _ (List.mem_of_getElem? (i := 48) rfl), TX6, 8, rfl⟩
def mX6_circuits : amM := (yX6_circuits, cX6_circuits, 1, (some (.object "PlaneCuts$Listing")), 4, 104)
theorem nv_X6_circuits : am_NV mX6_circuits 6 0 := ⟨pn_X6.1, lm_t3 _ (List.mem_of_getElem? (i := 73) rfl), lm_t1 _ (List.mem_of_getElem? (i := 3) rfl), ⟨pn_X6.2.1, pn_X6.2.2, by decide +kernel⟩, lm_t3 _ (List.mem_of_getElem? (i := 71) rfl), lm_t3 _ (List.mem_of_getElem? (i := 72) rfl), TX6, 8, rfl⟩
def mX6_factorsOf : amM := (yX6_factorsOf, cX6_factorsOf, 6, (some (.array .int)), 2, 55)
theorem nv_X6_factorsOf : am_NV mX6_factorsOf 6 1 := ⟨pn_X6.1, lm_t3 _ (List.mem_of_getElem? (i := 81) rfl), lm_t1 _ (List.mem_of_getElem? (i := 3) rfl), ⟨pn_X6.2.1, pn_X6.2.2, by decide +kernel⟩, lm_t3 _ (List.mem_of_getElem? (i := 79) rfl), lm_t3 _ (List.mem_of_getElem? (i := 80) rfl), TX6, 8, rfl⟩
def mX6_commonDivisor : amM := (yX6_commonDivisor, cX6_commonDivisor, 11, (some .long), 1, 21)
theorem ns_X6_commonDivisor : am_NS mX6_commonDivisor 2 := ⟨pn_X6.1, lm_t3 _ (List.mem_of_getElem? (i := 92) rfl), lm_t1 _ (List.mem_of_getElem? (i := 3) rfl), ⟨pn_X6.2.1, pn_X6.2.2, by decide +kernel⟩, lm_t3 _ (List.mem_of_getElem? (i := 91) rfl)⟩
def mX6_coefficient : amM := (yX6_coefficient, cX6_coefficient, 3, (some .int), 4, 104)
theorem nv_X6_coefficient : am_NV mX6_coefficient 6 2 := ⟨pn_X6.1, lm_t3 _ (List.mem_of_getElem? (i := 106) rfl), lm_t1 _ (List.mem_of_getElem? (i := 3) rfl), ⟨pn_X6.2.1, pn_X6.2.2, by decide +kernel⟩, lm_t3 _ (List.mem_of_getElem? (i := 104) rfl), lm_t3 _ (List.mem_of_getElem? (i := 105) rfl), TX6, 8, rfl⟩
def mX6_coefficientFromRanks : amM := (yX6_coefficientFromRanks, cX6_coefficientFromRanks, 6, (some .int), 1, 20)
theorem nv_X6_coefficientFromRanks : am_NV mX6_coefficientFromRanks 6 2 := ⟨pn_X6.1, lm_t2 _ (List.mem_of_getElem? (i := 218) rfl), lm_t1 _ (List.mem_of_getElem? (i := 3) rfl), ⟨pn_X6.2.1, pn_X6.2.2, by decide +kernel⟩, lm_t2 _ (List.mem_of_getElem? (i := 217) rfl), lm_s1 _ (List.mem_of_getElem? (i := 10) rfl), TX6, 8, rfl⟩
def mX6_moebius : amM := (yX6_moebius, cX6_moebius, 2, (some .int), 4, 104)
theorem nv_X6_moebius : am_NV mX6_moebius 6 1 := ⟨pn_X6.1, lm_t3 _ (List.mem_of_getElem? (i := 65) rfl), lm_t1 _ (List.mem_of_getElem? (i := 3) rfl), ⟨pn_X6.2.1, pn_X6.2.2, by decide +kernel⟩, lm_t3 _ (List.mem_of_getElem? (i := 63) rfl), lm_t3 _ (List.mem_of_getElem? (i := 64) rfl), TX6, 8, rfl⟩
def mX6_valueAt : amM := (yX6_valueAt, cX6_valueAt, 4, (some .int), 4, 104)
theorem nv_X6_valueAt : am_NV mX6_valueAt 6 1 := ⟨pn_X6.1, lm_t2 _ (List.mem_of_getElem? (i := 162) rfl), lm_t1 _ (List.mem_of_getElem? (i := 3) rfl), ⟨pn_X6.2.1, pn_X6.2.2, by decide +kernel⟩, lm_t2 _ (List.mem_of_getElem? (i := 160) rfl), lm_t2 _ (List.mem_of_getElem? (i := 161) rfl), TX6, 8, rfl⟩
def mX6_countRegions : amM := (yX6_countRegions, cX6_countRegions, 1, (some .int), 5, 127)
theorem nv_X6_countRegions : am_NV mX6_countRegions 6 0 := ⟨pn_X6.1, lm_t2 _ (List.mem_of_getElem? (i := 158) rfl), lm_t1 _ (List.mem_of_getElem? (i := 3) rfl), ⟨pn_X6.2.1, pn_X6.2.2, by decide +kernel⟩, lm_t2 _ (List.mem_of_getElem? (i := 156) rfl), lm_t2 _ (List.mem_of_getElem? (i := 157) rfl), TX6, 8, rfl⟩
def mX7_refresh : amM := (yX7_refresh, cX7_refresh, 3, none, 4, 104)
theorem nv_X7_refresh : am_NV mX7_refresh 7 0 := ⟨pn_X7.1, lm_t3 _ (List.mem_of_getElem? (i := 178) rfl), lm_t1 _ (List.mem_of_getElem? (i := 9) rfl), ⟨pn_X7.2.1, pn_X7.2.2, by decide +kernel⟩, lm_t3 _ (List.mem_of_getElem? (i := 177) rfl), lm_s2 _ (List.mem_of_getElem? (i := 1) rfl), TX7, 6, rfl⟩
def mX7_isModular : amM := (yX7_isModular, cX7_isModular, 4, (some .boolean), 1, 20)
theorem nv_X7_isModular : am_NV mX7_isModular 7 1 := ⟨pn_X7.1, lm_t3 _ (List.mem_of_getElem? (i := 184) rfl), lm_t1 _ (List.mem_of_getElem? (i := 9) rfl), ⟨pn_X7.2.1, pn_X7.2.2, by decide +kernel⟩, lm_t3 _ (List.mem_of_getElem? (i := 183) rfl), lm_s2 _ (List.mem_of_getElem? (i := 2) rfl), TX7, 6, rfl⟩
def mX7_nextAbove : amM := (yX7_nextAbove, cX7_nextAbove, 3, (some .int), 1, 20)
theorem nv_X7_nextAbove : am_NV mX7_nextAbove 7 1 := ⟨pn_X7.1, lm_t3 _ (List.mem_of_getElem? (i := 188) rfl), lm_t1 _ (List.mem_of_getElem? (i := 9) rfl), ⟨pn_X7.2.1, pn_X7.2.2, by decide +kernel⟩, lm_t3 _ (List.mem_of_getElem? (i := 187) rfl), lm_s2 _ (List.mem_of_getElem? (i := 3) rfl), TX7, 6, rfl⟩
def mX7_hasChain : amM := (yX7_hasChain, cX7_hasChain, 1, (some .boolean), 5, 126)
theorem nv_X7_hasChain : am_NV mX7_hasChain 7 0 := ⟨pn_X7.1, lm_t3 _ (List.mem_of_getElem? (i := 174) rfl), lm_t1 _ (List.mem_of_getElem? (i := 9) rfl), ⟨pn_X7.2.1, pn_X7.2.2, by decide +kernel⟩, lm_t3 _ (List.mem_of_getElem? (i := 172) rfl), lm_t3 _ (List.mem_of_getElem? (i := 173) rfl), TX7, 6, rfl⟩
def mX7_linkAt : amM := (yX7_linkAt, cX7_linkAt, 2, (some .int), 5, 126)
theorem nv_X7_linkAt : am_NV mX7_linkAt 7 1 := ⟨pn_X7.1, lm_t3 _ (List.mem_of_getElem? (i := 193) rfl), lm_t1 _ (List.mem_of_getElem? (i := 9) rfl), ⟨pn_X7.2.1, pn_X7.2.2, by decide +kernel⟩, lm_t3 _ (List.mem_of_getElem? (i := 191) rfl), lm_t3 _ (List.mem_of_getElem? (i := 192) rfl), TX7, 6, rfl⟩
def mX7_stepAt : amM := (yX7_stepAt, cX7_stepAt, 2, (some .int), 5, 126)
theorem nv_X7_stepAt : am_NV mX7_stepAt 7 1 := ⟨pn_X7.1, lm_t3 _ (List.mem_of_getElem? (i := 197) rfl), lm_t1 _ (List.mem_of_getElem? (i := 9) rfl), ⟨pn_X7.2.1, pn_X7.2.2, by decide +kernel⟩, lm_t3 _ (List.mem_of_getElem? (i := 195) rfl), lm_t3 _ (List.mem_of_getElem? (i := 196) rfl), TX7, 6, rfl⟩
def mX7_countOfRank : amM := (yX7_countOfRank, cX7_countOfRank, 4, (some .int), 5, 126)
theorem nv_X7_countOfRank : am_NV mX7_countOfRank 7 1 := ⟨pn_X7.1, lm_t3 _ (List.mem_of_getElem? (i := 206) rfl), lm_t1 _ (List.mem_of_getElem? (i := 9) rfl), ⟨pn_X7.2.1, pn_X7.2.2, by decide +kernel⟩, lm_t3 _ (List.mem_of_getElem? (i := 204) rfl), lm_t3 _ (List.mem_of_getElem? (i := 205) rfl), TX7, 6, rfl⟩
def mX8_refresh : amM := (yX8_refresh, cX8_refresh, 5, none, 4, 104)
theorem nv_X8_refresh : am_NV mX8_refresh 8 0 := ⟨pn_X8.1, lm_t3 _ (List.mem_of_getElem? (i := 128) rfl), lm_t1 _ (List.mem_of_getElem? (i := 8) rfl), ⟨pn_X8.2.1, pn_X8.2.2, by decide +kernel⟩, lm_t3 _ (List.mem_of_getElem? (i := 127) rfl), lm_s1 _ (List.mem_of_getElem? (i := 13) rfl), TX8, 6, rfl⟩
def mX8_positivePart : amM := (yX8_positivePart, cX8_positivePart, 5, (some .int), 3, 80)
theorem nv_X8_positivePart : am_NV mX8_positivePart 8 1 := ⟨pn_X8.1, lm_t3 _ (List.mem_of_getElem? (i := 134) rfl), lm_t1 _ (List.mem_of_getElem? (i := 8) rfl), ⟨pn_X8.2.1, pn_X8.2.2, by decide +kernel⟩, lm_t3 _ (List.mem_of_getElem? (i := 133) rfl), lm_s1 _ (List.mem_of_getElem? (i := 14) rfl), TX8, 6, rfl⟩
def mX8_strike : amM := (yX8_strike, cX8_strike, 7, none, 1, 20)
theorem nv_X8_strike : am_NV mX8_strike 8 2 := ⟨pn_X8.1, lm_t3 _ (List.mem_of_getElem? (i := 139) rfl), lm_t1 _ (List.mem_of_getElem? (i := 8) rfl), ⟨pn_X8.2.1, pn_X8.2.2, by decide +kernel⟩, lm_t3 _ (List.mem_of_getElem? (i := 138) rfl), lm_s1 _ (List.mem_of_getElem? (i := 15) rfl), TX8, 6, rfl⟩
def mX8_listed : amM := (yX8_listed, cX8_listed, 1, (some (.object "PlaneCuts$Listing")), 5, 128)
theorem nv_X8_listed : am_NV mX8_listed 8 0 := ⟨pn_X8.1, lm_t3 _ (List.mem_of_getElem? (i := 124) rfl), lm_t1 _ (List.mem_of_getElem? (i := 8) rfl), ⟨pn_X8.2.1, pn_X8.2.2, by decide +kernel⟩, lm_t3 _ (List.mem_of_getElem? (i := 122) rfl), lm_t3 _ (List.mem_of_getElem? (i := 123) rfl), TX8, 6, rfl⟩
def mX8_isRegion : amM := (yX8_isRegion, cX8_isRegion, 2, (some .boolean), 5, 128)
theorem nv_X8_isRegion : am_NV mX8_isRegion 8 1 := ⟨pn_X8.1, lm_t3 _ (List.mem_of_getElem? (i := 149) rfl), lm_t1 _ (List.mem_of_getElem? (i := 8) rfl), ⟨pn_X8.2.1, pn_X8.2.2, by decide +kernel⟩, lm_t3 _ (List.mem_of_getElem? (i := 147) rfl), lm_t3 _ (List.mem_of_getElem? (i := 148) rfl), TX8, 6, rfl⟩
def mX8_wallsOf : amM := (yX8_wallsOf, cX8_wallsOf, 4, (some .int), 5, 128)
theorem nv_X8_wallsOf : am_NV mX8_wallsOf 8 1 := ⟨pn_X8.1, lm_t3 _ (List.mem_of_getElem? (i := 153) rfl), lm_t1 _ (List.mem_of_getElem? (i := 8) rfl), ⟨pn_X8.2.1, pn_X8.2.2, by decide +kernel⟩, lm_t3 _ (List.mem_of_getElem? (i := 151) rfl), lm_t3 _ (List.mem_of_getElem? (i := 152) rfl), TX8, 6, rfl⟩
def mX8_countGalleries : amM := (yX8_countGalleries, cX8_countGalleries, 5, (some .int), 5, 128)
theorem nv_X8_countGalleries : am_NV mX8_countGalleries 8 2 := ⟨pn_X8.1, lm_t3 _ (List.mem_of_getElem? (i := 162) rfl), lm_t1 _ (List.mem_of_getElem? (i := 8) rfl), ⟨pn_X8.2.1, pn_X8.2.2, by decide +kernel⟩, lm_t3 _ (List.mem_of_getElem? (i := 160) rfl), lm_t3 _ (List.mem_of_getElem? (i := 161) rfl), TX8, 6, rfl⟩
def mX8_sumOfEarlier : amM := (yX8_sumOfEarlier, cX8_sumOfEarlier, 4, (some .int), 0, 0)
theorem nv_X8_sumOfEarlier : am_NV mX8_sumOfEarlier 8 1 := ⟨pn_X8.1, lm_t3 _ (List.mem_of_getElem? (i := 166) rfl), lm_t1 _ (List.mem_of_getElem? (i := 8) rfl), ⟨pn_X8.2.1, pn_X8.2.2, by decide +kernel⟩, lm_t3 _ (List.mem_of_getElem? (i := 165) rfl), lm_s2 _ (List.mem_of_getElem? (i := 0) rfl), TX8, 6, rfl⟩
def mX9_append : amM := (yX9_append, cX9_append, 2, (some .boolean), 0, 0)
theorem nv_X9_append : am_NV mX9_append 9 1 := ⟨pn_X9.1, lm_t4 _ (List.mem_of_getElem? (i := 34) rfl), lm_t1 _ (List.mem_of_getElem? (i := 12) rfl), ⟨pn_X9.2.1, pn_X9.2.2, by decide +kernel⟩, lm_t4 _ (List.mem_of_getElem? (i := 32) rfl), lm_t4 _ (List.mem_of_getElem? (i := 33) rfl), TX9, 6, rfl⟩
def mX9_verb : amM := (yX9_verb, cX9_verb, 2, (some .int), 0, 0)
theorem nv_X9_verb : am_NV mX9_verb 9 1 := ⟨pn_X9.1, lm_t4 _ (List.mem_of_getElem? (i := 78) rfl), lm_t1 _ (List.mem_of_getElem? (i := 12) rfl), ⟨pn_X9.2.1, pn_X9.2.2, by decide +kernel⟩, lm_t4 _ (List.mem_of_getElem? (i := 76) rfl), lm_t4 _ (List.mem_of_getElem? (i := 77) rfl), TX9, 6, rfl⟩
def mX9_number : amM := (yX9_number, cX9_number, 3, (some .int), 0, 0)
theorem nv_X9_number : am_NV mX9_number 9 2 := ⟨pn_X9.1, lm_t4 _ (List.mem_of_getElem? (i := 69) rfl), lm_t1 _ (List.mem_of_getElem? (i := 12) rfl), ⟨pn_X9.2.1, pn_X9.2.2, by decide +kernel⟩, lm_t4 _ (List.mem_of_getElem? (i := 67) rfl), lm_t4 _ (List.mem_of_getElem? (i := 68) rfl), TX9, 6, rfl⟩
def mX9_parse : amM := (yX9_parse, cX9_parse, 4, (some .int), 4, 93)
theorem nv_X9_parse : am_NV mX9_parse 9 1 := ⟨pn_X9.1, lm_t4 _ (List.mem_of_getElem? (i := 46) rfl), lm_t1 _ (List.mem_of_getElem? (i := 12) rfl), ⟨pn_X9.2.1, pn_X9.2.2, by decide +kernel⟩, lm_t4 _ (List.mem_of_getElem? (i := 44) rfl), lm_t4 _ (List.mem_of_getElem? (i := 45) rfl), TX9, 6, rfl⟩
def mX9_readCommand : amM := (yX9_readCommand, cX9_readCommand, 5, (some .boolean), 3, 69)
theorem nv_X9_readCommand : am_NV mX9_readCommand 9 1 := ⟨pn_X9.1, lm_t4 _ (List.mem_of_getElem? (i := 58) rfl), lm_t1 _ (List.mem_of_getElem? (i := 12) rfl), ⟨pn_X9.2.1, pn_X9.2.2, by decide +kernel⟩, lm_t4 _ (List.mem_of_getElem? (i := 57) rfl), lm_s2 _ (List.mem_of_getElem? (i := 10) rfl), TX9, 6, rfl⟩
def mX9_countNumbers : amM := (yX9_countNumbers, cX9_countNumbers, 2, (some .int), 0, 0)
theorem ns_X9_countNumbers : am_NS mX9_countNumbers 2 := ⟨pn_X9.1, lm_t4 _ (List.mem_of_getElem? (i := 61) rfl), lm_t1 _ (List.mem_of_getElem? (i := 12) rfl), ⟨pn_X9.2.1, pn_X9.2.2, by decide +kernel⟩, lm_t4 _ (List.mem_of_getElem? (i := 60) rfl)⟩
def mX9_readNumber : amM := (yX9_readNumber, cX9_readNumber, 7, (some .boolean), 2, 43)
theorem nv_X9_readNumber : am_NV mX9_readNumber 9 2 := ⟨pn_X9.1, lm_t4 _ (List.mem_of_getElem? (i := 65) rfl), lm_t1 _ (List.mem_of_getElem? (i := 12) rfl), ⟨pn_X9.2.1, pn_X9.2.2, by decide +kernel⟩, lm_t4 _ (List.mem_of_getElem? (i := 64) rfl), lm_s2 _ (List.mem_of_getElem? (i := 11) rfl), TX9, 6, rfl⟩
def mX9_isBetween : amM := (yX9_isBetween, cX9_isBetween, 3, (some .boolean), 0, 0)
theorem nv_X9_isBetween : am_NV mX9_isBetween 9 2 := ⟨pn_X9.1, lm_t4 _ (List.mem_of_getElem? (i := 54) rfl), lm_t1 _ (List.mem_of_getElem? (i := 12) rfl), ⟨pn_X9.2.1, pn_X9.2.2, by decide +kernel⟩, lm_t4 _ (List.mem_of_getElem? (i := 53) rfl), lm_s2 _ (List.mem_of_getElem? (i := 9) rfl), TX9, 6, rfl⟩
def mX9_skipSpaces : amM := (yX9_skipSpaces, cX9_skipSpaces, 2, none, 1, 22)
theorem nv_X9_skipSpaces : am_NV mX9_skipSpaces 9 0 := ⟨pn_X9.1, lm_t4 _ (List.mem_of_getElem? (i := 50) rfl), lm_t1 _ (List.mem_of_getElem? (i := 12) rfl), ⟨pn_X9.2.1, pn_X9.2.2, by decide +kernel⟩, lm_t4 _ (List.mem_of_getElem? (i := 49) rfl), lm_s2 _ (List.mem_of_getElem? (i := 8) rfl), TX9, 6, rfl⟩
def mX10_space : amM := (yX10_space, cX10_space, 2, (some .int), 4, 93)
theorem nv_X10_space : am_NV mX10_space 10 1 := ⟨pn_X10.1, lm_t2 _ (List.mem_of_getElem? (i := 92) rfl), lm_t1 _ (List.mem_of_getElem? (i := 1) rfl), ⟨pn_X10.2.1, pn_X10.2.2, by decide +kernel⟩, lm_t2 _ (List.mem_of_getElem? (i := 90) rfl), lm_t2 _ (List.mem_of_getElem? (i := 91) rfl), TX10, 14, rfl⟩
def mX10_plane : amM := (yX10_plane, cX10_plane, 5, (some .int), 4, 93)
theorem nv_X10_plane : am_NV mX10_plane 10 4 := ⟨pn_X10.1, lm_t2 _ (List.mem_of_getElem? (i := 123) rfl), lm_t1 _ (List.mem_of_getElem? (i := 1) rfl), ⟨pn_X10.2.1, pn_X10.2.2, by decide +kernel⟩, lm_t2 _ (List.mem_of_getElem? (i := 121) rfl), lm_t2 _ (List.mem_of_getElem? (i := 122) rfl), TX10, 14, rfl⟩
def mX10_turns : amM := (yX10_turns, cX10_turns, 3, (some .int), 6, 147)
theorem nv_X10_turns : am_NV mX10_turns 10 1 := ⟨pn_X10.1, lm_t2 _ (List.mem_of_getElem? (i := 146) rfl), lm_t1 _ (List.mem_of_getElem? (i := 1) rfl), ⟨pn_X10.2.1, pn_X10.2.2, by decide +kernel⟩, lm_t2 _ (List.mem_of_getElem? (i := 144) rfl), lm_t2 _ (List.mem_of_getElem? (i := 145) rfl), TX10, 14, rfl⟩
def mX10_drops : amM := (yX10_drops, cX10_drops, 2, (some .int), 4, 93)
theorem nv_X10_drops : am_NV mX10_drops 10 1 := ⟨pn_X10.1, lm_t2 _ (List.mem_of_getElem? (i := 225) rfl), lm_t1 _ (List.mem_of_getElem? (i := 1) rfl), ⟨pn_X10.2.1, pn_X10.2.2, by decide +kernel⟩, lm_t2 _ (List.mem_of_getElem? (i := 223) rfl), lm_t2 _ (List.mem_of_getElem? (i := 224) rfl), TX10, 14, rfl⟩
def mX10_swaps : amM := (yX10_swaps, cX10_swaps, 4, (some .int), 5, 125)
theorem nv_X10_swaps : am_NV mX10_swaps 10 2 := ⟨pn_X10.1, lm_t2 _ (List.mem_of_getElem? (i := 233) rfl), lm_t1 _ (List.mem_of_getElem? (i := 1) rfl), ⟨pn_X10.2.1, pn_X10.2.2, by decide +kernel⟩, lm_t2 _ (List.mem_of_getElem? (i := 231) rfl), lm_t2 _ (List.mem_of_getElem? (i := 232) rfl), TX10, 14, rfl⟩
def mX10_makes : amM := (yX10_makes, cX10_makes, 2, (some .int), 4, 95)
theorem nv_X10_makes : am_NV mX10_makes 10 1 := ⟨pn_X10.1, lm_t3 _ (List.mem_of_getElem? (i := 6) rfl), lm_t1 _ (List.mem_of_getElem? (i := 1) rfl), ⟨pn_X10.2.1, pn_X10.2.2, by decide +kernel⟩, lm_t3 _ (List.mem_of_getElem? (i := 4) rfl), lm_t3 _ (List.mem_of_getElem? (i := 5) rfl), TX10, 14, rfl⟩
def mX10_of : amM := (yX10_of, cX10_of, 3, (some .int), 1, 22)
theorem nv_X10_of : am_NV mX10_of 10 2 := ⟨pn_X10.1, lm_t3 _ (List.mem_of_getElem? (i := 22) rfl), lm_t1 _ (List.mem_of_getElem? (i := 1) rfl), ⟨pn_X10.2.1, pn_X10.2.2, by decide +kernel⟩, lm_t3 _ (List.mem_of_getElem? (i := 20) rfl), lm_t3 _ (List.mem_of_getElem? (i := 21) rfl), TX10, 14, rfl⟩
def mX10_rank : amM := (yX10_rank, cX10_rank, 2, (some .int), 5, 125)
theorem nv_X10_rank : am_NV mX10_rank 10 1 := ⟨pn_X10.1, lm_t3 _ (List.mem_of_getElem? (i := 28) rfl), lm_t1 _ (List.mem_of_getElem? (i := 1) rfl), ⟨pn_X10.2.1, pn_X10.2.2, by decide +kernel⟩, lm_t3 _ (List.mem_of_getElem? (i := 26) rfl), lm_t3 _ (List.mem_of_getElem? (i := 27) rfl), TX10, 14, rfl⟩
def mX10_closed : amM := (yX10_closed, cX10_closed, 2, (some .int), 5, 125)
theorem nv_X10_closed : am_NV mX10_closed 10 1 := ⟨pn_X10.1, lm_t3 _ (List.mem_of_getElem? (i := 37) rfl), lm_t1 _ (List.mem_of_getElem? (i := 1) rfl), ⟨pn_X10.2.1, pn_X10.2.2, by decide +kernel⟩, lm_t3 _ (List.mem_of_getElem? (i := 35) rfl), lm_t3 _ (List.mem_of_getElem? (i := 36) rfl), TX10, 14, rfl⟩
def mX10_flats : amM := (yX10_flats, cX10_flats, 3, (some .int), 5, 126)
theorem nv_X10_flats : am_NV mX10_flats 10 2 := ⟨pn_X10.1, lm_t3 _ (List.mem_of_getElem? (i := 45) rfl), lm_t1 _ (List.mem_of_getElem? (i := 1) rfl), ⟨pn_X10.2.1, pn_X10.2.2, by decide +kernel⟩, lm_t3 _ (List.mem_of_getElem? (i := 43) rfl), lm_t3 _ (List.mem_of_getElem? (i := 44) rfl), TX10, 14, rfl⟩
def mX10_sign : amM := (yX10_sign, cX10_sign, 2, (some .int), 5, 125)
theorem nv_X10_sign : am_NV mX10_sign 10 1 := ⟨pn_X10.1, lm_t3 _ (List.mem_of_getElem? (i := 57) rfl), lm_t1 _ (List.mem_of_getElem? (i := 1) rfl), ⟨pn_X10.2.1, pn_X10.2.2, by decide +kernel⟩, lm_t3 _ (List.mem_of_getElem? (i := 55) rfl), lm_t3 _ (List.mem_of_getElem? (i := 56) rfl), TX10, 14, rfl⟩
def mX10_rings : amM := (yX10_rings, cX10_rings, 2, (some .int), 5, 124)
theorem nv_X10_rings : am_NV mX10_rings 10 1 := ⟨pn_X10.1, lm_t3 _ (List.mem_of_getElem? (i := 69) rfl), lm_t1 _ (List.mem_of_getElem? (i := 1) rfl), ⟨pn_X10.2.1, pn_X10.2.2, by decide +kernel⟩, lm_t3 _ (List.mem_of_getElem? (i := 67) rfl), lm_t3 _ (List.mem_of_getElem? (i := 68) rfl), TX10, 14, rfl⟩
def mX10_factor : amM := (yX10_factor, cX10_factor, 4, (some .int), 5, 124)
theorem nv_X10_factor : am_NV mX10_factor 10 2 := ⟨pn_X10.1, lm_t3 _ (List.mem_of_getElem? (i := 77) rfl), lm_t1 _ (List.mem_of_getElem? (i := 1) rfl), ⟨pn_X10.2.1, pn_X10.2.2, by decide +kernel⟩, lm_t3 _ (List.mem_of_getElem? (i := 75) rfl), lm_t3 _ (List.mem_of_getElem? (i := 76) rfl), TX10, 14, rfl⟩
def mX10_polynomial : amM := (yX10_polynomial, cX10_polynomial, 3, (some .int), 5, 126)
theorem nv_X10_polynomial : am_NV mX10_polynomial 10 2 := ⟨pn_X10.1, lm_t3 _ (List.mem_of_getElem? (i := 102) rfl), lm_t1 _ (List.mem_of_getElem? (i := 1) rfl), ⟨pn_X10.2.1, pn_X10.2.2, by decide +kernel⟩, lm_t3 _ (List.mem_of_getElem? (i := 100) rfl), lm_t3 _ (List.mem_of_getElem? (i := 101) rfl), TX10, 14, rfl⟩
def mX10_value : amM := (yX10_value, cX10_value, 2, (some .int), 5, 127)
theorem nv_X10_value : am_NV mX10_value 10 1 := ⟨pn_X10.1, lm_t3 _ (List.mem_of_getElem? (i := 110) rfl), lm_t1 _ (List.mem_of_getElem? (i := 1) rfl), ⟨pn_X10.2.1, pn_X10.2.2, by decide +kernel⟩, lm_t3 _ (List.mem_of_getElem? (i := 108) rfl), lm_t3 _ (List.mem_of_getElem? (i := 109) rfl), TX10, 14, rfl⟩
def mX10_within : amM := (yX10_within, cX10_within, 4, (some .int), 5, 126)
theorem nv_X10_within : am_NV mX10_within 10 2 := ⟨pn_X10.1, lm_t3 _ (List.mem_of_getElem? (i := 116) rfl), lm_t1 _ (List.mem_of_getElem? (i := 1) rfl), ⟨pn_X10.2.1, pn_X10.2.2, by decide +kernel⟩, lm_t3 _ (List.mem_of_getElem? (i := 114) rfl), lm_t3 _ (List.mem_of_getElem? (i := 115) rfl), TX10, 14, rfl⟩
def mX10_parts : amM := (yX10_parts, cX10_parts, 2, (some .int), 6, 148)
theorem nv_X10_parts : am_NV mX10_parts 10 1 := ⟨pn_X10.1, lm_t3 _ (List.mem_of_getElem? (i := 120) rfl), lm_t1 _ (List.mem_of_getElem? (i := 1) rfl), ⟨pn_X10.2.1, pn_X10.2.2, by decide +kernel⟩, lm_t3 _ (List.mem_of_getElem? (i := 118) rfl), lm_t3 _ (List.mem_of_getElem? (i := 119) rfl), TX10, 14, rfl⟩
def mX10_walls : amM := (yX10_walls, cX10_walls, 2, (some .int), 6, 151)
theorem nv_X10_walls : am_NV mX10_walls 10 1 := ⟨pn_X10.1, lm_t3 _ (List.mem_of_getElem? (i := 145) rfl), lm_t1 _ (List.mem_of_getElem? (i := 1) rfl), ⟨pn_X10.2.1, pn_X10.2.2, by decide +kernel⟩, lm_t3 _ (List.mem_of_getElem? (i := 143) rfl), lm_t3 _ (List.mem_of_getElem? (i := 144) rfl), TX10, 14, rfl⟩
def mX10_way : amM := (yX10_way, cX10_way, 4, (some .int), 6, 152)
theorem nv_X10_way : am_NV mX10_way 10 3 := ⟨pn_X10.1, lm_t3 _ (List.mem_of_getElem? (i := 157) rfl), lm_t1 _ (List.mem_of_getElem? (i := 1) rfl), ⟨pn_X10.2.1, pn_X10.2.2, by decide +kernel⟩, lm_t3 _ (List.mem_of_getElem? (i := 155) rfl), lm_t3 _ (List.mem_of_getElem? (i := 156) rfl), TX10, 14, rfl⟩
def mX10_chain : amM := (yX10_chain, cX10_chain, 4, (some .int), 6, 147)
theorem nv_X10_chain : am_NV mX10_chain 10 2 := ⟨pn_X10.1, lm_t3 _ (List.mem_of_getElem? (i := 170) rfl), lm_t1 _ (List.mem_of_getElem? (i := 1) rfl), ⟨pn_X10.2.1, pn_X10.2.2, by decide +kernel⟩, lm_t3 _ (List.mem_of_getElem? (i := 168) rfl), lm_t3 _ (List.mem_of_getElem? (i := 169) rfl), TX10, 14, rfl⟩
def mX10_even : amM := (yX10_even, cX10_even, 2, (some .int), 6, 149)
theorem nv_X10_even : am_NV mX10_even 10 1 := ⟨pn_X10.1, lm_t3 _ (List.mem_of_getElem? (i := 202) rfl), lm_t1 _ (List.mem_of_getElem? (i := 1) rfl), ⟨pn_X10.2.1, pn_X10.2.2, by decide +kernel⟩, lm_t3 _ (List.mem_of_getElem? (i := 200) rfl), lm_t3 _ (List.mem_of_getElem? (i := 201) rfl), TX10, 14, rfl⟩
def mX10_places : amM := (yX10_places, cX10_places, 4, (some .int), 6, 149)
theorem nv_X10_places : am_NV mX10_places 10 2 := ⟨pn_X10.1, lm_t3 _ (List.mem_of_getElem? (i := 210) rfl), lm_t1 _ (List.mem_of_getElem? (i := 1) rfl), ⟨pn_X10.2.1, pn_X10.2.2, by decide +kernel⟩, lm_t3 _ (List.mem_of_getElem? (i := 208) rfl), lm_t3 _ (List.mem_of_getElem? (i := 209) rfl), TX10, 14, rfl⟩
def mX10_base : amM := (yX10_base, cX10_base, 3, (some .int), 6, 149)
theorem nv_X10_base : am_NV mX10_base 10 2 := ⟨pn_X10.1, lm_t4 _ (List.mem_of_getElem? (i := 0) rfl), lm_t1 _ (List.mem_of_getElem? (i := 1) rfl), ⟨pn_X10.2.1, pn_X10.2.2, by decide +kernel⟩, lm_t3 _ (List.mem_of_getElem? (i := 238) rfl), lm_t3 _ (List.mem_of_getElem? (i := 239) rfl), TX10, 14, rfl⟩
def mX10_form : amM := (yX10_form, cX10_form, 4, (some .int), 6, 150)
theorem nv_X10_form : am_NV mX10_form 10 2 := ⟨pn_X10.1, lm_t4 _ (List.mem_of_getElem? (i := 18) rfl), lm_t1 _ (List.mem_of_getElem? (i := 1) rfl), ⟨pn_X10.2.1, pn_X10.2.2, by decide +kernel⟩, lm_t4 _ (List.mem_of_getElem? (i := 16) rfl), lm_t4 _ (List.mem_of_getElem? (i := 17) rfl), TX10, 14, rfl⟩
def mX10_type : amM := (yX10_type, cX10_type, 2, (some .int), 1, 21)
theorem nv_X10_type : am_NV mX10_type 10 1 := ⟨pn_X10.1, lm_t4 _ (List.mem_of_getElem? (i := 30) rfl), lm_t1 _ (List.mem_of_getElem? (i := 1) rfl), ⟨pn_X10.2.1, pn_X10.2.2, by decide +kernel⟩, lm_t4 _ (List.mem_of_getElem? (i := 28) rfl), lm_t4 _ (List.mem_of_getElem? (i := 29) rfl), TX10, 14, rfl⟩
def mX10_clear : amM := (yX10_clear, cX10_clear, 2, (some .int), 0, 0)
theorem nv_X10_clear : am_NV mX10_clear 10 0 := ⟨pn_X10.1, lm_t4 _ (List.mem_of_getElem? (i := 38) rfl), lm_t1 _ (List.mem_of_getElem? (i := 1) rfl), ⟨pn_X10.2.1, pn_X10.2.2, by decide +kernel⟩, lm_t4 _ (List.mem_of_getElem? (i := 36) rfl), lm_t4 _ (List.mem_of_getElem? (i := 37) rfl), TX10, 14, rfl⟩
def mX10_reads : amM := (yX10_reads, cX10_reads, 4, (some .int), 5, 118)
theorem nv_X10_reads : am_NV mX10_reads 10 0 := ⟨pn_X10.1, lm_t4 _ (List.mem_of_getElem? (i := 42) rfl), lm_t1 _ (List.mem_of_getElem? (i := 1) rfl), ⟨pn_X10.2.1, pn_X10.2.2, by decide +kernel⟩, lm_t4 _ (List.mem_of_getElem? (i := 40) rfl), lm_t4 _ (List.mem_of_getElem? (i := 41) rfl), TX10, 14, rfl⟩
def mX10_why : amM := (yX10_why, cX10_why, 2, (some .int), 1, 21)
theorem nv_X10_why : am_NV mX10_why 10 1 := ⟨pn_X10.1, lm_t4 _ (List.mem_of_getElem? (i := 82) rfl), lm_t1 _ (List.mem_of_getElem? (i := 1) rfl), ⟨pn_X10.2.1, pn_X10.2.2, by decide +kernel⟩, lm_t4 _ (List.mem_of_getElem? (i := 80) rfl), lm_t4 _ (List.mem_of_getElem? (i := 81) rfl), TX10, 14, rfl⟩
def mX10_back : amM := (yX10_back, cX10_back, 1, (some .int), 3, 72)
theorem nv_X10_back : am_NV mX10_back 10 0 := ⟨pn_X10.1, lm_t4 _ (List.mem_of_getElem? (i := 86) rfl), lm_t1 _ (List.mem_of_getElem? (i := 1) rfl), ⟨pn_X10.2.1, pn_X10.2.2, by decide +kernel⟩, lm_t4 _ (List.mem_of_getElem? (i := 84) rfl), lm_t4 _ (List.mem_of_getElem? (i := 85) rfl), TX10, 14, rfl⟩
def mX10_told : amM := (yX10_told, cX10_told, 2, (some .int), 5, 125)
theorem nv_X10_told : am_NV mX10_told 10 1 := ⟨pn_X10.1, lm_t4 _ (List.mem_of_getElem? (i := 94) rfl), lm_t1 _ (List.mem_of_getElem? (i := 1) rfl), ⟨pn_X10.2.1, pn_X10.2.2, by decide +kernel⟩, lm_t4 _ (List.mem_of_getElem? (i := 92) rfl), lm_t4 _ (List.mem_of_getElem? (i := 93) rfl), TX10, 14, rfl⟩
def mX10_digest : amM := (yX10_digest, cX10_digest, 5, (some .long), 6, 149)
theorem nv_X10_digest : am_NV mX10_digest 10 0 := ⟨pn_X10.1, lm_t4 _ (List.mem_of_getElem? (i := 98) rfl), lm_t1 _ (List.mem_of_getElem? (i := 1) rfl), ⟨pn_X10.2.1, pn_X10.2.2, by decide +kernel⟩, lm_t4 _ (List.mem_of_getElem? (i := 96) rfl), lm_t4 _ (List.mem_of_getElem? (i := 97) rfl), TX10, 14, rfl⟩
def mX10_mixed : amM := (yX10_mixed, cX10_mixed, 4, (some .long), 0, 0)
theorem ns_X10_mixed : am_NS mX10_mixed 2 := ⟨pn_X10.1, lm_t4 _ (List.mem_of_getElem? (i := 103) rfl), lm_t1 _ (List.mem_of_getElem? (i := 1) rfl), ⟨pn_X10.2.1, pn_X10.2.2, by decide +kernel⟩, lm_t4 _ (List.mem_of_getElem? (i := 102) rfl)⟩
def mX10_refused : amM := (yX10_refused, cX10_refused, 2, (some .int), 0, 0)
theorem nv_X10_refused : am_NV mX10_refused 10 1 := ⟨pn_X10.1, lm_t2 _ (List.mem_of_getElem? (i := 111) rfl), lm_t1 _ (List.mem_of_getElem? (i := 1) rfl), ⟨pn_X10.2.1, pn_X10.2.2, by decide +kernel⟩, lm_t2 _ (List.mem_of_getElem? (i := 110) rfl), lm_s1 _ (List.mem_of_getElem? (i := 1) rfl), TX10, 14, rfl⟩
def mX10_settled : amM := (yX10_settled, cX10_settled, 2, (some .int), 3, 72)
theorem nv_X10_settled : am_NV mX10_settled 10 1 := ⟨pn_X10.1, lm_t2 _ (List.mem_of_getElem? (i := 107) rfl), lm_t1 _ (List.mem_of_getElem? (i := 1) rfl), ⟨pn_X10.2.1, pn_X10.2.2, by decide +kernel⟩, lm_t2 _ (List.mem_of_getElem? (i := 106) rfl), lm_s1 _ (List.mem_of_getElem? (i := 0) rfl), TX10, 14, rfl⟩
def mX10_executed : amM := (yX10_executed, cX10_executed, 4, (some .int), 4, 95)
theorem nv_X10_executed : am_NV mX10_executed 10 1 := ⟨pn_X10.1, lm_t4 _ (List.mem_of_getElem? (i := 73) rfl), lm_t1 _ (List.mem_of_getElem? (i := 1) rfl), ⟨pn_X10.2.1, pn_X10.2.2, by decide +kernel⟩, lm_t4 _ (List.mem_of_getElem? (i := 72) rfl), lm_s2 _ (List.mem_of_getElem? (i := 12) rfl), TX10, 14, rfl⟩
def mX11_in : amM := (yX11_in, cX11_in, 3, (some .boolean), 0, 0)
theorem ns_X11_in : am_NS mX11_in 3 := ⟨pn_X11.1, lm_t4 _ (List.mem_of_getElem? (i := 238) rfl), lm_t1 _ (List.mem_of_getElem? (i := 13) rfl), ⟨pn_X11.2.1, pn_X11.2.2, by decide +kernel⟩, lm_t4 _ (List.mem_of_getElem? (i := 237) rfl)⟩
def mX11_has : amM := (yX11_has, cX11_has, 2, (some .boolean), 0, 0)
theorem ns_X11_has : am_NS mX11_has 2 := ⟨pn_X11.1, lm_t5 _ (List.mem_of_getElem? (i := 57) rfl), lm_t1 _ (List.mem_of_getElem? (i := 13) rfl), ⟨pn_X11.2.1, pn_X11.2.2, by decide +kernel⟩, lm_t5 _ (List.mem_of_getElem? (i := 56) rfl)⟩
def mX11_bits : amM := (yX11_bits, cX11_bits, 3, (some .int), 0, 0)
theorem ns_X11_bits : am_NS mX11_bits 1 := ⟨pn_X11.1, lm_t5 _ (List.mem_of_getElem? (i := 71) rfl), lm_t1 _ (List.mem_of_getElem? (i := 13) rfl), ⟨pn_X11.2.1, pn_X11.2.2, by decide +kernel⟩, lm_t5 _ (List.mem_of_getElem? (i := 70) rfl)⟩
def mX11_refuses : amM := (yX11_refuses, cX11_refuses, 2, (some .int), 0, 0)
theorem nv_X11_refuses : am_NV mX11_refuses 11 1 := ⟨pn_X11.1, lm_t4 _ (List.mem_of_getElem? (i := 223) rfl), lm_t1 _ (List.mem_of_getElem? (i := 13) rfl), ⟨pn_X11.2.1, pn_X11.2.2, by decide +kernel⟩, lm_t4 _ (List.mem_of_getElem? (i := 222) rfl), lm_s2 _ (List.mem_of_getElem? (i := 13) rfl), TX11, 33, rfl⟩
def mX11_hold : amM := (yX11_hold, cX11_hold, 2, none, 0, 0)
theorem nv_X11_hold : am_NV mX11_hold 11 0 := ⟨pn_X11.1, lm_t4 _ (List.mem_of_getElem? (i := 231) rfl), lm_t1 _ (List.mem_of_getElem? (i := 13) rfl), ⟨pn_X11.2.1, pn_X11.2.2, by decide +kernel⟩, lm_t4 _ (List.mem_of_getElem? (i := 230) rfl), lm_s2 _ (List.mem_of_getElem? (i := 14) rfl), TX11, 33, rfl⟩
def mX11_push : amM := (yX11_push, cX11_push, 2, none, 0, 0)
theorem nv_X11_push : am_NV mX11_push 11 0 := ⟨pn_X11.1, lm_t5 _ (List.mem_of_getElem? (i := 6) rfl), lm_t1 _ (List.mem_of_getElem? (i := 13) rfl), ⟨pn_X11.2.1, pn_X11.2.2, by decide +kernel⟩, lm_t5 _ (List.mem_of_getElem? (i := 5) rfl), lm_s3 _ (List.mem_of_getElem? (i := 1) rfl), TX11, 33, rfl⟩
def mX11_back : amM := (yX11_back, cX11_back, 2, (some .int), 1, 21)
theorem nv_X11_back : am_NV mX11_back 11 0 := ⟨pn_X11.1, lm_t4 _ (List.mem_of_getElem? (i := 219) rfl), lm_t1 _ (List.mem_of_getElem? (i := 13) rfl), ⟨pn_X11.2.1, pn_X11.2.2, by decide +kernel⟩, lm_t4 _ (List.mem_of_getElem? (i := 217) rfl), lm_t4 _ (List.mem_of_getElem? (i := 218) rfl), TX11, 33, rfl⟩
def mX11_common : amM := (yX11_common, cX11_common, 10, (some .long), 0, 0)
theorem ns_X11_common : am_NS mX11_common 2 := ⟨pn_X11.1, lm_t5 _ (List.mem_of_getElem? (i := 68) rfl), lm_t1 _ (List.mem_of_getElem? (i := 13) rfl), ⟨pn_X11.2.1, pn_X11.2.2, by decide +kernel⟩, lm_t5 _ (List.mem_of_getElem? (i := 67) rfl)⟩
def mX11_shrink : amM := (yX11_shrink, cX11_shrink, 5, none, 1, 29)
theorem nv_X11_shrink : am_NV mX11_shrink 11 1 := ⟨pn_X11.1, lm_t5 _ (List.mem_of_getElem? (i := 65) rfl), lm_t1 _ (List.mem_of_getElem? (i := 13) rfl), ⟨pn_X11.2.1, pn_X11.2.2, by decide +kernel⟩, lm_t5 _ (List.mem_of_getElem? (i := 64) rfl), lm_s3 _ (List.mem_of_getElem? (i := 13) rfl), TX11, 33, rfl⟩
def mX11_swapRows : amM := (yX11_swapRows, cX11_swapRows, 6, none, 0, 0)
theorem nv_X11_swapRows : am_NV mX11_swapRows 11 2 := ⟨pn_X11.1, lm_t5 _ (List.mem_of_getElem? (i := 61) rfl), lm_t1 _ (List.mem_of_getElem? (i := 13) rfl), ⟨pn_X11.2.1, pn_X11.2.2, by decide +kernel⟩, lm_t5 _ (List.mem_of_getElem? (i := 60) rfl), lm_s3 _ (List.mem_of_getElem? (i := 12) rfl), TX11, 33, rfl⟩
def mX11_rankBy : amM := (yX11_rankBy, cX11_rankBy, 12, (some .int), 2, 53)
theorem nv_X11_rankBy : am_NV mX11_rankBy 11 1 := ⟨pn_X11.1, lm_t5 _ (List.mem_of_getElem? (i := 54) rfl), lm_t1 _ (List.mem_of_getElem? (i := 13) rfl), ⟨pn_X11.2.1, pn_X11.2.2, by decide +kernel⟩, lm_t5 _ (List.mem_of_getElem? (i := 53) rfl), lm_s3 _ (List.mem_of_getElem? (i := 11) rfl), TX11, 33, rfl⟩
def mX11_all : amM := (yX11_all, cX11_all, 1, (some .int), 0, 0)
theorem nv_X11_all : am_NV mX11_all 11 0 := ⟨pn_X11.1, lm_t5 _ (List.mem_of_getElem? (i := 42) rfl), lm_t1 _ (List.mem_of_getElem? (i := 13) rfl), ⟨pn_X11.2.1, pn_X11.2.2, by decide +kernel⟩, lm_t5 _ (List.mem_of_getElem? (i := 41) rfl), lm_s3 _ (List.mem_of_getElem? (i := 8) rfl), TX11, 33, rfl⟩
def mX11_isSet : amM := (yX11_isSet, cX11_isSet, 2, (some .boolean), 1, 22)
theorem nv_X11_isSet : am_NV mX11_isSet 11 1 := ⟨pn_X11.1, lm_t5 _ (List.mem_of_getElem? (i := 131) rfl), lm_t1 _ (List.mem_of_getElem? (i := 13) rfl), ⟨pn_X11.2.1, pn_X11.2.2, by decide +kernel⟩, lm_t5 _ (List.mem_of_getElem? (i := 130) rfl), lm_s4 _ (List.mem_of_getElem? (i := 7) rfl), TX11, 33, rfl⟩
def mX11_lay : amM := (yX11_lay, cX11_lay, 3, none, 4, 109)
theorem nv_X11_lay : am_NV mX11_lay 11 0 := ⟨pn_X11.1, lm_t5 _ (List.mem_of_getElem? (i := 50) rfl), lm_t1 _ (List.mem_of_getElem? (i := 13) rfl), ⟨pn_X11.2.1, pn_X11.2.2, by decide +kernel⟩, lm_t5 _ (List.mem_of_getElem? (i := 49) rfl), lm_s3 _ (List.mem_of_getElem? (i := 10) rfl), TX11, 33, rfl⟩
def mX11_isBound : amM := (yX11_isBound, cX11_isBound, 2, (some .boolean), 1, 22)
theorem nv_X11_isBound : am_NV mX11_isBound 11 1 := ⟨pn_X11.1, lm_t5 _ (List.mem_of_getElem? (i := 79) rfl), lm_t1 _ (List.mem_of_getElem? (i := 13) rfl), ⟨pn_X11.2.1, pn_X11.2.2, by decide +kernel⟩, lm_t5 _ (List.mem_of_getElem? (i := 78) rfl), lm_s3 _ (List.mem_of_getElem? (i := 15) rfl), TX11, 33, rfl⟩
def mX11_isRing : amM := (yX11_isRing, cX11_isRing, 4, (some .boolean), 2, 43)
theorem nv_X11_isRing : am_NV mX11_isRing 11 1 := ⟨pn_X11.1, lm_t5 _ (List.mem_of_getElem? (i := 75) rfl), lm_t1 _ (List.mem_of_getElem? (i := 13) rfl), ⟨pn_X11.2.1, pn_X11.2.2, by decide +kernel⟩, lm_t5 _ (List.mem_of_getElem? (i := 74) rfl), lm_s3 _ (List.mem_of_getElem? (i := 14) rfl), TX11, 33, rfl⟩
def mX11_clearColumn : amM := (yX11_clearColumn, cX11_clearColumn, 11, none, 1, 29)
theorem nv_X11_clearColumn : am_NV mX11_clearColumn 11 1 := ⟨pn_X11.1, lm_t5 _ (List.mem_of_getElem? (i := 91) rfl), lm_t1 _ (List.mem_of_getElem? (i := 13) rfl), ⟨pn_X11.2.1, pn_X11.2.2, by decide +kernel⟩, lm_t5 _ (List.mem_of_getElem? (i := 90) rfl), lm_s4 _ (List.mem_of_getElem? (i := 2) rfl), TX11, 33, rfl⟩
def mX11_findFactors : amM := (yX11_findFactors, cX11_findFactors, 8, none, 2, 59)
theorem nv_X11_findFactors : am_NV mX11_findFactors 11 1 := ⟨pn_X11.1, lm_t5 _ (List.mem_of_getElem? (i := 87) rfl), lm_t1 _ (List.mem_of_getElem? (i := 13) rfl), ⟨pn_X11.2.1, pn_X11.2.2, by decide +kernel⟩, lm_t5 _ (List.mem_of_getElem? (i := 86) rfl), lm_s4 _ (List.mem_of_getElem? (i := 1) rfl), TX11, 33, rfl⟩
def mX11_aboveOf : amM := (yX11_aboveOf, cX11_aboveOf, 4, (some .int), 3, 86)
theorem nv_X11_aboveOf : am_NV mX11_aboveOf 11 1 := ⟨pn_X11.1, lm_t5 _ (List.mem_of_getElem? (i := 83) rfl), lm_t1 _ (List.mem_of_getElem? (i := 13) rfl), ⟨pn_X11.2.1, pn_X11.2.2, by decide +kernel⟩, lm_t5 _ (List.mem_of_getElem? (i := 82) rfl), lm_s4 _ (List.mem_of_getElem? (i := 0) rfl), TX11, 33, rfl⟩
def mX11_doSpace : amM := (yX11_doSpace, cX11_doSpace, 2, (some .int), 1, 22)
theorem nv_X11_doSpace : am_NV mX11_doSpace 11 1 := ⟨pn_X11.1, lm_t4 _ (List.mem_of_getElem? (i := 235) rfl), lm_t1 _ (List.mem_of_getElem? (i := 13) rfl), ⟨pn_X11.2.1, pn_X11.2.2, by decide +kernel⟩, lm_t4 _ (List.mem_of_getElem? (i := 234) rfl), lm_s2 _ (List.mem_of_getElem? (i := 15) rfl), TX11, 33, rfl⟩
def mX11_isThere : amM := (yX11_isThere, cX11_isThere, 5, (some .boolean), 0, 0)
theorem nv_X11_isThere : am_NV mX11_isThere 11 1 := ⟨pn_X11.1, lm_t5 _ (List.mem_of_getElem? (i := 18) rfl), lm_t1 _ (List.mem_of_getElem? (i := 13) rfl), ⟨pn_X11.2.1, pn_X11.2.2, by decide +kernel⟩, lm_t5 _ (List.mem_of_getElem? (i := 17) rfl), lm_s3 _ (List.mem_of_getElem? (i := 3) rfl), TX11, 33, rfl⟩
def mX11_doPlane : amM := (yX11_doPlane, cX11_doPlane, 8, (some .int), 1, 24)
theorem nv_X11_doPlane : am_NV mX11_doPlane 11 4 := ⟨pn_X11.1, lm_t5 _ (List.mem_of_getElem? (i := 14) rfl), lm_t1 _ (List.mem_of_getElem? (i := 13) rfl), ⟨pn_X11.2.1, pn_X11.2.2, by decide +kernel⟩, lm_t5 _ (List.mem_of_getElem? (i := 13) rfl), lm_s3 _ (List.mem_of_getElem? (i := 2) rfl), TX11, 33, rfl⟩
def mX11_addsTold : amM := (yX11_addsTold, cX11_addsTold, 2, none, 0, 0)
theorem nv_X11_addsTold : am_NV mX11_addsTold 11 0 := ⟨pn_X11.1, lm_t5 _ (List.mem_of_getElem? (i := 22) rfl), lm_t1 _ (List.mem_of_getElem? (i := 13) rfl), ⟨pn_X11.2.1, pn_X11.2.2, by decide +kernel⟩, lm_t5 _ (List.mem_of_getElem? (i := 21) rfl), lm_s3 _ (List.mem_of_getElem? (i := 4) rfl), TX11, 33, rfl⟩
def mX11_isPlane : amM := (yX11_isPlane, cX11_isPlane, 2, (some .boolean), 1, 22)
theorem nv_X11_isPlane : am_NV mX11_isPlane 11 1 := ⟨pn_X11.1, lm_t5 _ (List.mem_of_getElem? (i := 34) rfl), lm_t1 _ (List.mem_of_getElem? (i := 13) rfl), ⟨pn_X11.2.1, pn_X11.2.2, by decide +kernel⟩, lm_t5 _ (List.mem_of_getElem? (i := 33) rfl), lm_s3 _ (List.mem_of_getElem? (i := 6) rfl), TX11, 33, rfl⟩
def mX11_doTurns : amM := (yX11_doTurns, cX11_doTurns, 3, (some .int), 2, 43)
theorem nv_X11_doTurns : am_NV mX11_doTurns 11 1 := ⟨pn_X11.1, lm_t5 _ (List.mem_of_getElem? (i := 30) rfl), lm_t1 _ (List.mem_of_getElem? (i := 13) rfl), ⟨pn_X11.2.1, pn_X11.2.2, by decide +kernel⟩, lm_t5 _ (List.mem_of_getElem? (i := 29) rfl), lm_s3 _ (List.mem_of_getElem? (i := 5) rfl), TX11, 33, rfl⟩
def mX11_doDrops : amM := (yX11_doDrops, cX11_doDrops, 3, (some .int), 2, 43)
theorem nv_X11_doDrops : am_NV mX11_doDrops 11 1 := ⟨pn_X11.1, lm_t5 _ (List.mem_of_getElem? (i := 99) rfl), lm_t1 _ (List.mem_of_getElem? (i := 13) rfl), ⟨pn_X11.2.1, pn_X11.2.2, by decide +kernel⟩, lm_t5 _ (List.mem_of_getElem? (i := 98) rfl), lm_s4 _ (List.mem_of_getElem? (i := 3) rfl), TX11, 33, rfl⟩
def mX11_doSwaps : amM := (yX11_doSwaps, cX11_doSwaps, 5, (some .int), 2, 43)
theorem nv_X11_doSwaps : am_NV mX11_doSwaps 11 2 := ⟨pn_X11.1, lm_t5 _ (List.mem_of_getElem? (i := 107) rfl), lm_t1 _ (List.mem_of_getElem? (i := 13) rfl), ⟨pn_X11.2.1, pn_X11.2.2, by decide +kernel⟩, lm_t5 _ (List.mem_of_getElem? (i := 106) rfl), lm_s4 _ (List.mem_of_getElem? (i := 4) rfl), TX11, 33, rfl⟩
def mX11_makesOne : amM := (yX11_makesOne, cX11_makesOne, 6, none, 1, 21)
theorem nv_X11_makesOne : am_NV mX11_makesOne 11 4 := ⟨pn_X11.1, lm_t5 _ (List.mem_of_getElem? (i := 119) rfl), lm_t1 _ (List.mem_of_getElem? (i := 13) rfl), ⟨pn_X11.2.1, pn_X11.2.2, by decide +kernel⟩, lm_t5 _ (List.mem_of_getElem? (i := 118) rfl), lm_s4 _ (List.mem_of_getElem? (i := 6) rfl), TX11, 33, rfl⟩
def mX11_doMakes : amM := (yX11_doMakes, cX11_doMakes, 4, (some .int), 2, 46)
theorem nv_X11_doMakes : am_NV mX11_doMakes 11 1 := ⟨pn_X11.1, lm_t5 _ (List.mem_of_getElem? (i := 115) rfl), lm_t1 _ (List.mem_of_getElem? (i := 13) rfl), ⟨pn_X11.2.1, pn_X11.2.2, by decide +kernel⟩, lm_t5 _ (List.mem_of_getElem? (i := 114) rfl), lm_s4 _ (List.mem_of_getElem? (i := 5) rfl), TX11, 33, rfl⟩
def mX11_ends : amM := (yX11_ends, cX11_ends, 2, (some .int), 1, 21)
theorem nv_X11_ends : am_NV mX11_ends 11 1 := ⟨pn_X11.1, lm_t5 _ (List.mem_of_getElem? (i := 2) rfl), lm_t1 _ (List.mem_of_getElem? (i := 13) rfl), ⟨pn_X11.2.1, pn_X11.2.2, by decide +kernel⟩, lm_t5 _ (List.mem_of_getElem? (i := 1) rfl), lm_s3 _ (List.mem_of_getElem? (i := 0) rfl), TX11, 33, rfl⟩
def mX11_space : amM := (yX11_space, cX11_space, 2, (some .int), 2, 43)
theorem nv_X11_space : am_NV mX11_space 11 1 := ⟨pn_X11.1, lm_t4 _ (List.mem_of_getElem? (i := 227) rfl), lm_t1 _ (List.mem_of_getElem? (i := 13) rfl), ⟨pn_X11.2.1, pn_X11.2.2, by decide +kernel⟩, lm_t4 _ (List.mem_of_getElem? (i := 225) rfl), lm_t4 _ (List.mem_of_getElem? (i := 226) rfl), TX11, 33, rfl⟩
def mX11_plane : amM := (yX11_plane, cX11_plane, 5, (some .int), 2, 51)
theorem nv_X11_plane : am_NV mX11_plane 11 4 := ⟨pn_X11.1, lm_t5 _ (List.mem_of_getElem? (i := 10) rfl), lm_t1 _ (List.mem_of_getElem? (i := 13) rfl), ⟨pn_X11.2.1, pn_X11.2.2, by decide +kernel⟩, lm_t5 _ (List.mem_of_getElem? (i := 8) rfl), lm_t5 _ (List.mem_of_getElem? (i := 9) rfl), TX11, 33, rfl⟩
def mX11_turns : amM := (yX11_turns, cX11_turns, 2, (some .int), 7, 176)
theorem nv_X11_turns : am_NV mX11_turns 11 1 := ⟨pn_X11.1, lm_t5 _ (List.mem_of_getElem? (i := 26) rfl), lm_t1 _ (List.mem_of_getElem? (i := 13) rfl), ⟨pn_X11.2.1, pn_X11.2.2, by decide +kernel⟩, lm_t5 _ (List.mem_of_getElem? (i := 24) rfl), lm_t5 _ (List.mem_of_getElem? (i := 25) rfl), TX11, 33, rfl⟩
def mX11_drops : amM := (yX11_drops, cX11_drops, 2, (some .int), 3, 65)
theorem nv_X11_drops : am_NV mX11_drops 11 1 := ⟨pn_X11.1, lm_t5 _ (List.mem_of_getElem? (i := 95) rfl), lm_t1 _ (List.mem_of_getElem? (i := 13) rfl), ⟨pn_X11.2.1, pn_X11.2.2, by decide +kernel⟩, lm_t5 _ (List.mem_of_getElem? (i := 93) rfl), lm_t5 _ (List.mem_of_getElem? (i := 94) rfl), TX11, 33, rfl⟩
def mX11_swaps : amM := (yX11_swaps, cX11_swaps, 3, (some .int), 5, 131)
theorem nv_X11_swaps : am_NV mX11_swaps 11 2 := ⟨pn_X11.1, lm_t5 _ (List.mem_of_getElem? (i := 103) rfl), lm_t1 _ (List.mem_of_getElem? (i := 13) rfl), ⟨pn_X11.2.1, pn_X11.2.2, by decide +kernel⟩, lm_t5 _ (List.mem_of_getElem? (i := 101) rfl), lm_t5 _ (List.mem_of_getElem? (i := 102) rfl), TX11, 33, rfl⟩
def mX11_makes : amM := (yX11_makes, cX11_makes, 2, (some .int), 3, 69)
theorem nv_X11_makes : am_NV mX11_makes 11 1 := ⟨pn_X11.1, lm_t5 _ (List.mem_of_getElem? (i := 111) rfl), lm_t1 _ (List.mem_of_getElem? (i := 13) rfl), ⟨pn_X11.2.1, pn_X11.2.2, by decide +kernel⟩, lm_t5 _ (List.mem_of_getElem? (i := 109) rfl), lm_t5 _ (List.mem_of_getElem? (i := 110) rfl), TX11, 33, rfl⟩
def mX11_of : amM := (yX11_of, cX11_of, 3, (some .int), 2, 43)
theorem nv_X11_of : am_NV mX11_of 11 2 := ⟨pn_X11.1, lm_t5 _ (List.mem_of_getElem? (i := 123) rfl), lm_t1 _ (List.mem_of_getElem? (i := 13) rfl), ⟨pn_X11.2.1, pn_X11.2.2, by decide +kernel⟩, lm_t5 _ (List.mem_of_getElem? (i := 121) rfl), lm_t5 _ (List.mem_of_getElem? (i := 122) rfl), TX11, 33, rfl⟩
def mX11_rank : amM := (yX11_rank, cX11_rank, 2, (some .int), 5, 131)
theorem nv_X11_rank : am_NV mX11_rank 11 1 := ⟨pn_X11.1, lm_t5 _ (List.mem_of_getElem? (i := 127) rfl), lm_t1 _ (List.mem_of_getElem? (i := 13) rfl), ⟨pn_X11.2.1, pn_X11.2.2, by decide +kernel⟩, lm_t5 _ (List.mem_of_getElem? (i := 125) rfl), lm_t5 _ (List.mem_of_getElem? (i := 126) rfl), TX11, 33, rfl⟩
def mX11_closedOf : amM := (yX11_closedOf, cX11_closedOf, 4, (some .int), 0, 0)
theorem nv_X11_closedOf : am_NV mX11_closedOf 11 1 := ⟨pn_X11.1, lm_t5 _ (List.mem_of_getElem? (i := 139) rfl), lm_t1 _ (List.mem_of_getElem? (i := 13) rfl), ⟨pn_X11.2.1, pn_X11.2.2, by decide +kernel⟩, lm_t5 _ (List.mem_of_getElem? (i := 138) rfl), lm_s4 _ (List.mem_of_getElem? (i := 8) rfl), TX11, 33, rfl⟩
def mX11_closed : amM := (yX11_closed, cX11_closed, 2, (some .int), 5, 131)
theorem nv_X11_closed : am_NV mX11_closed 11 1 := ⟨pn_X11.1, lm_t5 _ (List.mem_of_getElem? (i := 135) rfl), lm_t1 _ (List.mem_of_getElem? (i := 13) rfl), ⟨pn_X11.2.1, pn_X11.2.2, by decide +kernel⟩, lm_t5 _ (List.mem_of_getElem? (i := 133) rfl), lm_t5 _ (List.mem_of_getElem? (i := 134) rfl), TX11, 33, rfl⟩
def mX11_isFlat : amM := (yX11_isFlat, cX11_isFlat, 2, (some .boolean), 1, 23)
theorem nv_X11_isFlat : am_NV mX11_isFlat 11 1 := ⟨pn_X11.1, lm_t5 _ (List.mem_of_getElem? (i := 151) rfl), lm_t1 _ (List.mem_of_getElem? (i := 13) rfl), ⟨pn_X11.2.1, pn_X11.2.2, by decide +kernel⟩, lm_t5 _ (List.mem_of_getElem? (i := 150) rfl), lm_s4 _ (List.mem_of_getElem? (i := 10) rfl), TX11, 33, rfl⟩
def mX11_flatOf : amM := (yX11_flatOf, cX11_flatOf, 5, (some .int), 5, 131)
theorem nv_X11_flatOf : am_NV mX11_flatOf 11 2 := ⟨pn_X11.1, lm_t5 _ (List.mem_of_getElem? (i := 147) rfl), lm_t1 _ (List.mem_of_getElem? (i := 13) rfl), ⟨pn_X11.2.1, pn_X11.2.2, by decide +kernel⟩, lm_t5 _ (List.mem_of_getElem? (i := 146) rfl), lm_s4 _ (List.mem_of_getElem? (i := 9) rfl), TX11, 33, rfl⟩
def mX11_flats : amM := (yX11_flats, cX11_flats, 3, (some .int), 6, 155)
theorem nv_X11_flats : am_NV mX11_flats 11 2 := ⟨pn_X11.1, lm_t5 _ (List.mem_of_getElem? (i := 143) rfl), lm_t1 _ (List.mem_of_getElem? (i := 13) rfl), ⟨pn_X11.2.1, pn_X11.2.2, by decide +kernel⟩, lm_t5 _ (List.mem_of_getElem? (i := 141) rfl), lm_t5 _ (List.mem_of_getElem? (i := 142) rfl), TX11, 33, rfl⟩
def mX11_sign : amM := (yX11_sign, cX11_sign, 4, (some .int), 5, 131)
theorem nv_X11_sign : am_NV mX11_sign 11 1 := ⟨pn_X11.1, lm_t5 _ (List.mem_of_getElem? (i := 155) rfl), lm_t1 _ (List.mem_of_getElem? (i := 13) rfl), ⟨pn_X11.2.1, pn_X11.2.2, by decide +kernel⟩, lm_t5 _ (List.mem_of_getElem? (i := 153) rfl), lm_t5 _ (List.mem_of_getElem? (i := 154) rfl), TX11, 33, rfl⟩
def mX11_rings : amM := (yX11_rings, cX11_rings, 2, (some .int), 5, 131)
theorem nv_X11_rings : am_NV mX11_rings 11 1 := ⟨pn_X11.1, lm_t5 _ (List.mem_of_getElem? (i := 159) rfl), lm_t1 _ (List.mem_of_getElem? (i := 13) rfl), ⟨pn_X11.2.1, pn_X11.2.2, by decide +kernel⟩, lm_t5 _ (List.mem_of_getElem? (i := 157) rfl), lm_t5 _ (List.mem_of_getElem? (i := 158) rfl), TX11, 33, rfl⟩
def mX11_factor : amM := (yX11_factor, cX11_factor, 3, (some .int), 5, 131)
theorem nv_X11_factor : am_NV mX11_factor 11 2 := ⟨pn_X11.1, lm_t5 _ (List.mem_of_getElem? (i := 163) rfl), lm_t1 _ (List.mem_of_getElem? (i := 13) rfl), ⟨pn_X11.2.1, pn_X11.2.2, by decide +kernel⟩, lm_t5 _ (List.mem_of_getElem? (i := 161) rfl), lm_t5 _ (List.mem_of_getElem? (i := 162) rfl), TX11, 33, rfl⟩
def mX11_polynomialOf : amM := (yX11_polynomialOf, cX11_polynomialOf, 5, (some .int), 5, 131)
theorem nv_X11_polynomialOf : am_NV mX11_polynomialOf 11 2 := ⟨pn_X11.1, lm_t5 _ (List.mem_of_getElem? (i := 171) rfl), lm_t1 _ (List.mem_of_getElem? (i := 13) rfl), ⟨pn_X11.2.1, pn_X11.2.2, by decide +kernel⟩, lm_t5 _ (List.mem_of_getElem? (i := 170) rfl), lm_s4 _ (List.mem_of_getElem? (i := 11) rfl), TX11, 33, rfl⟩
def mX11_polynomial : amM := (yX11_polynomial, cX11_polynomial, 3, (some .int), 6, 155)
theorem nv_X11_polynomial : am_NV mX11_polynomial 11 2 := ⟨pn_X11.1, lm_t5 _ (List.mem_of_getElem? (i := 167) rfl), lm_t1 _ (List.mem_of_getElem? (i := 13) rfl), ⟨pn_X11.2.1, pn_X11.2.2, by decide +kernel⟩, lm_t5 _ (List.mem_of_getElem? (i := 165) rfl), lm_t5 _ (List.mem_of_getElem? (i := 166) rfl), TX11, 33, rfl⟩
def mX11_value : amM := (yX11_value, cX11_value, 4, (some .int), 6, 155)
theorem nv_X11_value : am_NV mX11_value 11 1 := ⟨pn_X11.1, lm_t5 _ (List.mem_of_getElem? (i := 175) rfl), lm_t1 _ (List.mem_of_getElem? (i := 13) rfl), ⟨pn_X11.2.1, pn_X11.2.2, by decide +kernel⟩, lm_t5 _ (List.mem_of_getElem? (i := 173) rfl), lm_t5 _ (List.mem_of_getElem? (i := 174) rfl), TX11, 33, rfl⟩
def mX11_within : amM := (yX11_within, cX11_within, 3, (some .int), 6, 155)
theorem nv_X11_within : am_NV mX11_within 11 2 := ⟨pn_X11.1, lm_t5 _ (List.mem_of_getElem? (i := 180) rfl), lm_t1 _ (List.mem_of_getElem? (i := 13) rfl), ⟨pn_X11.2.1, pn_X11.2.2, by decide +kernel⟩, lm_t5 _ (List.mem_of_getElem? (i := 178) rfl), lm_t5 _ (List.mem_of_getElem? (i := 179) rfl), TX11, 33, rfl⟩
def mX11_isPart : amM := (yX11_isPart, cX11_isPart, 4, (some .boolean), 5, 131)
theorem nv_X11_isPart : am_NV mX11_isPart 11 1 := ⟨pn_X11.1, lm_t5 _ (List.mem_of_getElem? (i := 46) rfl), lm_t1 _ (List.mem_of_getElem? (i := 13) rfl), ⟨pn_X11.2.1, pn_X11.2.2, by decide +kernel⟩, lm_t5 _ (List.mem_of_getElem? (i := 45) rfl), lm_s3 _ (List.mem_of_getElem? (i := 9) rfl), TX11, 33, rfl⟩
def mX11_partMany : amM := (yX11_partMany, cX11_partMany, 3, (some .int), 6, 154)
theorem nv_X11_partMany : am_NV mX11_partMany 11 0 := ⟨pn_X11.1, lm_t5 _ (List.mem_of_getElem? (i := 38) rfl), lm_t1 _ (List.mem_of_getElem? (i := 13) rfl), ⟨pn_X11.2.1, pn_X11.2.2, by decide +kernel⟩, lm_t5 _ (List.mem_of_getElem? (i := 37) rfl), lm_s3 _ (List.mem_of_getElem? (i := 7) rfl), TX11, 33, rfl⟩
def mX11_parts : amM := (yX11_parts, cX11_parts, 4, (some .int), 7, 176)
theorem nv_X11_parts : am_NV mX11_parts 11 1 := ⟨pn_X11.1, lm_t5 _ (List.mem_of_getElem? (i := 184) rfl), lm_t1 _ (List.mem_of_getElem? (i := 13) rfl), ⟨pn_X11.2.1, pn_X11.2.2, by decide +kernel⟩, lm_t5 _ (List.mem_of_getElem? (i := 182) rfl), lm_t5 _ (List.mem_of_getElem? (i := 183) rfl), TX11, 33, rfl⟩
def mX11_wallsOf : amM := (yX11_wallsOf, cX11_wallsOf, 4, (some .int), 6, 154)
theorem nv_X11_wallsOf : am_NV mX11_wallsOf 11 1 := ⟨pn_X11.1, lm_t5 _ (List.mem_of_getElem? (i := 192) rfl), lm_t1 _ (List.mem_of_getElem? (i := 13) rfl), ⟨pn_X11.2.1, pn_X11.2.2, by decide +kernel⟩, lm_t5 _ (List.mem_of_getElem? (i := 191) rfl), lm_s4 _ (List.mem_of_getElem? (i := 12) rfl), TX11, 33, rfl⟩
def mX11_walls : amM := (yX11_walls, cX11_walls, 2, (some .int), 7, 177)
theorem nv_X11_walls : am_NV mX11_walls 11 1 := ⟨pn_X11.1, lm_t5 _ (List.mem_of_getElem? (i := 188) rfl), lm_t1 _ (List.mem_of_getElem? (i := 13) rfl), ⟨pn_X11.2.1, pn_X11.2.2, by decide +kernel⟩, lm_t5 _ (List.mem_of_getElem? (i := 186) rfl), lm_t5 _ (List.mem_of_getElem? (i := 187) rfl), TX11, 33, rfl⟩
def mX11_way : amM := (yX11_way, cX11_way, 10, (some .int), 7, 177)
theorem nv_X11_way : am_NV mX11_way 11 3 := ⟨pn_X11.1, lm_t5 _ (List.mem_of_getElem? (i := 196) rfl), lm_t1 _ (List.mem_of_getElem? (i := 13) rfl), ⟨pn_X11.2.1, pn_X11.2.2, by decide +kernel⟩, lm_t5 _ (List.mem_of_getElem? (i := 194) rfl), lm_t5 _ (List.mem_of_getElem? (i := 195) rfl), TX11, 33, rfl⟩
def mX11_isEven : amM := (yX11_isEven, cX11_isEven, 3, (some .boolean), 2, 44)
theorem nv_X11_isEven : am_NV mX11_isEven 11 1 := ⟨pn_X11.1, lm_t5 _ (List.mem_of_getElem? (i := 208) rfl), lm_t1 _ (List.mem_of_getElem? (i := 13) rfl), ⟨pn_X11.2.1, pn_X11.2.2, by decide +kernel⟩, lm_t5 _ (List.mem_of_getElem? (i := 207) rfl), lm_s4 _ (List.mem_of_getElem? (i := 14) rfl), TX11, 33, rfl⟩
def mX11_isChain : amM := (yX11_isChain, cX11_isChain, 6, (some .boolean), 5, 131)
theorem nv_X11_isChain : am_NV mX11_isChain 11 0 := ⟨pn_X11.1, lm_t5 _ (List.mem_of_getElem? (i := 204) rfl), lm_t1 _ (List.mem_of_getElem? (i := 13) rfl), ⟨pn_X11.2.1, pn_X11.2.2, by decide +kernel⟩, lm_t5 _ (List.mem_of_getElem? (i := 203) rfl), lm_s4 _ (List.mem_of_getElem? (i := 13) rfl), TX11, 33, rfl⟩
def mX11_chain : amM := (yX11_chain, cX11_chain, 4, (some .int), 6, 156)
theorem nv_X11_chain : am_NV mX11_chain 11 2 := ⟨pn_X11.1, lm_t5 _ (List.mem_of_getElem? (i := 200) rfl), lm_t1 _ (List.mem_of_getElem? (i := 13) rfl), ⟨pn_X11.2.1, pn_X11.2.2, by decide +kernel⟩, lm_t5 _ (List.mem_of_getElem? (i := 198) rfl), lm_t5 _ (List.mem_of_getElem? (i := 199) rfl), TX11, 33, rfl⟩
def mX11_even : amM := (yX11_even, cX11_even, 4, (some .int), 5, 131)
theorem nv_X11_even : am_NV mX11_even 11 1 := ⟨pn_X11.1, lm_t5 _ (List.mem_of_getElem? (i := 212) rfl), lm_t1 _ (List.mem_of_getElem? (i := 13) rfl), ⟨pn_X11.2.1, pn_X11.2.2, by decide +kernel⟩, lm_t5 _ (List.mem_of_getElem? (i := 210) rfl), lm_t5 _ (List.mem_of_getElem? (i := 211) rfl), TX11, 33, rfl⟩
def mX11_placesOver : amM := (yX11_placesOver, cX11_placesOver, 10, (some .int), 0, 0)
theorem nv_X11_placesOver : am_NV mX11_placesOver 11 1 := ⟨pn_X11.1, lm_t5 _ (List.mem_of_getElem? (i := 220) rfl), lm_t1 _ (List.mem_of_getElem? (i := 13) rfl), ⟨pn_X11.2.1, pn_X11.2.2, by decide +kernel⟩, lm_t5 _ (List.mem_of_getElem? (i := 219) rfl), lm_s4 _ (List.mem_of_getElem? (i := 15) rfl), TX11, 33, rfl⟩
def mX11_isFreeOver : amM := (yX11_isFreeOver, cX11_isFreeOver, 11, (some .boolean), 1, 21)
theorem nv_X11_isFreeOver : am_NV mX11_isFreeOver 11 2 := ⟨pn_X11.1, lm_t5 _ (List.mem_of_getElem? (i := 228) rfl), lm_t1 _ (List.mem_of_getElem? (i := 13) rfl), ⟨pn_X11.2.1, pn_X11.2.2, by decide +kernel⟩, lm_t5 _ (List.mem_of_getElem? (i := 227) rfl), lm_s5 _ (List.mem_of_getElem? (i := 1) rfl), TX11, 33, rfl⟩
def mX11_isGood : amM := (yX11_isGood, cX11_isGood, 4, (some .boolean), 5, 131)
theorem nv_X11_isGood : am_NV mX11_isGood 11 1 := ⟨pn_X11.1, lm_t5 _ (List.mem_of_getElem? (i := 224) rfl), lm_t1 _ (List.mem_of_getElem? (i := 13) rfl), ⟨pn_X11.2.1, pn_X11.2.2, by decide +kernel⟩, lm_t5 _ (List.mem_of_getElem? (i := 223) rfl), lm_s5 _ (List.mem_of_getElem? (i := 0) rfl), TX11, 33, rfl⟩
def mX11_places : amM := (yX11_places, cX11_places, 3, (some .int), 6, 154)
theorem nv_X11_places : am_NV mX11_places 11 2 := ⟨pn_X11.1, lm_t5 _ (List.mem_of_getElem? (i := 216) rfl), lm_t1 _ (List.mem_of_getElem? (i := 13) rfl), ⟨pn_X11.2.1, pn_X11.2.2, by decide +kernel⟩, lm_t5 _ (List.mem_of_getElem? (i := 214) rfl), lm_t5 _ (List.mem_of_getElem? (i := 215) rfl), TX11, 33, rfl⟩
def mX11_broken : amM := (yX11_broken, cX11_broken, 4, (some .int), 0, 0)
theorem nv_X11_broken : am_NV mX11_broken 11 1 := ⟨pn_X11.1, lm_t6 _ (List.mem_of_getElem? (i := 4) rfl), lm_t1 _ (List.mem_of_getElem? (i := 13) rfl), ⟨pn_X11.2.1, pn_X11.2.2, by decide +kernel⟩, lm_t6 _ (List.mem_of_getElem? (i := 3) rfl), lm_s5 _ (List.mem_of_getElem? (i := 4) rfl), TX11, 33, rfl⟩
def mX11_isBase : amM := (yX11_isBase, cX11_isBase, 2, (some .boolean), 2, 43)
theorem nv_X11_isBase : am_NV mX11_isBase 11 1 := ⟨pn_X11.1, lm_t6 _ (List.mem_of_getElem? (i := 0) rfl), lm_t1 _ (List.mem_of_getElem? (i := 13) rfl), ⟨pn_X11.2.1, pn_X11.2.2, by decide +kernel⟩, lm_t5 _ (List.mem_of_getElem? (i := 239) rfl), lm_s5 _ (List.mem_of_getElem? (i := 3) rfl), TX11, 33, rfl⟩
def mX11_baseOf : amM := (yX11_baseOf, cX11_baseOf, 5, (some .int), 5, 131)
theorem nv_X11_baseOf : am_NV mX11_baseOf 11 2 := ⟨pn_X11.1, lm_t5 _ (List.mem_of_getElem? (i := 236) rfl), lm_t1 _ (List.mem_of_getElem? (i := 13) rfl), ⟨pn_X11.2.1, pn_X11.2.2, by decide +kernel⟩, lm_t5 _ (List.mem_of_getElem? (i := 235) rfl), lm_s5 _ (List.mem_of_getElem? (i := 2) rfl), TX11, 33, rfl⟩
def mX11_base : amM := (yX11_base, cX11_base, 3, (some .int), 6, 155)
theorem nv_X11_base : am_NV mX11_base 11 2 := ⟨pn_X11.1, lm_t5 _ (List.mem_of_getElem? (i := 232) rfl), lm_t1 _ (List.mem_of_getElem? (i := 13) rfl), ⟨pn_X11.2.1, pn_X11.2.2, by decide +kernel⟩, lm_t5 _ (List.mem_of_getElem? (i := 230) rfl), lm_t5 _ (List.mem_of_getElem? (i := 231) rfl), TX11, 33, rfl⟩
def mX11_turned : amM := (yX11_turned, cX11_turned, 4, (some .int), 1, 22)
theorem ns_X11_turned : am_NS mX11_turned 2 := ⟨pn_X11.1, lm_t6 _ (List.mem_of_getElem? (i := 15) rfl), lm_t1 _ (List.mem_of_getElem? (i := 13) rfl), ⟨pn_X11.2.1, pn_X11.2.2, by decide +kernel⟩, lm_t6 _ (List.mem_of_getElem? (i := 14) rfl)⟩
def mX11_form : amM := (yX11_form, cX11_form, 6, (some .int), 6, 155)
theorem nv_X11_form : am_NV mX11_form 11 2 := ⟨pn_X11.1, lm_t6 _ (List.mem_of_getElem? (i := 8) rfl), lm_t1 _ (List.mem_of_getElem? (i := 13) rfl), ⟨pn_X11.2.1, pn_X11.2.2, by decide +kernel⟩, lm_t6 _ (List.mem_of_getElem? (i := 6) rfl), lm_t6 _ (List.mem_of_getElem? (i := 7) rfl), TX11, 33, rfl⟩
def mX11_spread : amM := (yX11_spread, cX11_spread, 10, none, 2, 45)
theorem nv_X11_spread : am_NV mX11_spread 11 2 := ⟨pn_X11.1, lm_t6 _ (List.mem_of_getElem? (i := 12) rfl), lm_t1 _ (List.mem_of_getElem? (i := 13) rfl), ⟨pn_X11.2.1, pn_X11.2.2, by decide +kernel⟩, lm_t6 _ (List.mem_of_getElem? (i := 11) rfl), lm_s5 _ (List.mem_of_getElem? (i := 5) rfl), TX11, 33, rfl⟩
def mX11_type : amM := (yX11_type, cX11_type, 2, (some .int), 1, 22)
theorem nv_X11_type : am_NV mX11_type 11 1 := ⟨pn_X11.1, lm_t6 _ (List.mem_of_getElem? (i := 19) rfl), lm_t1 _ (List.mem_of_getElem? (i := 13) rfl), ⟨pn_X11.2.1, pn_X11.2.2, by decide +kernel⟩, lm_t6 _ (List.mem_of_getElem? (i := 17) rfl), lm_t6 _ (List.mem_of_getElem? (i := 18) rfl), TX11, 33, rfl⟩
def mX11_clear : amM := (yX11_clear, cX11_clear, 2, (some .int), 0, 0)
theorem nv_X11_clear : am_NV mX11_clear 11 0 := ⟨pn_X11.1, lm_t6 _ (List.mem_of_getElem? (i := 23) rfl), lm_t1 _ (List.mem_of_getElem? (i := 13) rfl), ⟨pn_X11.2.1, pn_X11.2.2, by decide +kernel⟩, lm_t6 _ (List.mem_of_getElem? (i := 21) rfl), lm_t6 _ (List.mem_of_getElem? (i := 22) rfl), TX11, 33, rfl⟩
def mX11_here : amM := (yX11_here, cX11_here, 1, (some .int), 0, 0)
theorem nv_X11_here : am_NV mX11_here 11 0 := ⟨pn_X11.1, lm_t6 _ (List.mem_of_getElem? (i := 31) rfl), lm_t1 _ (List.mem_of_getElem? (i := 13) rfl), ⟨pn_X11.2.1, pn_X11.2.2, by decide +kernel⟩, lm_t6 _ (List.mem_of_getElem? (i := 30) rfl), lm_s5 _ (List.mem_of_getElem? (i := 6) rfl), TX11, 33, rfl⟩
def mX11_must : amM := (yX11_must, cX11_must, 2, none, 0, 0)
theorem nv_X11_must : am_NV mX11_must 11 1 := ⟨pn_X11.1, lm_t6 _ (List.mem_of_getElem? (i := 35) rfl), lm_t1 _ (List.mem_of_getElem? (i := 13) rfl), ⟨pn_X11.2.1, pn_X11.2.2, by decide +kernel⟩, lm_t6 _ (List.mem_of_getElem? (i := 34) rfl), lm_s5 _ (List.mem_of_getElem? (i := 7) rfl), TX11, 33, rfl⟩
def mX11_figure : amM := (yX11_figure, cX11_figure, 4, (some .int), 1, 22)
theorem nv_X11_figure : am_NV mX11_figure 11 2 := ⟨pn_X11.1, lm_t6 _ (List.mem_of_getElem? (i := 50) rfl), lm_t1 _ (List.mem_of_getElem? (i := 13) rfl), ⟨pn_X11.2.1, pn_X11.2.2, by decide +kernel⟩, lm_t6 _ (List.mem_of_getElem? (i := 49) rfl), lm_s5 _ (List.mem_of_getElem? (i := 10) rfl), TX11, 33, rfl⟩
def mX11_signed : amM := (yX11_signed, cX11_signed, 1, (some .int), 2, 45)
theorem nv_X11_signed : am_NV mX11_signed 11 0 := ⟨pn_X11.1, lm_t6 _ (List.mem_of_getElem? (i := 46) rfl), lm_t1 _ (List.mem_of_getElem? (i := 13) rfl), ⟨pn_X11.2.1, pn_X11.2.2, by decide +kernel⟩, lm_t6 _ (List.mem_of_getElem? (i := 45) rfl), lm_s5 _ (List.mem_of_getElem? (i := 9) rfl), TX11, 33, rfl⟩
def mX11_plain : amM := (yX11_plain, cX11_plain, 3, (some .int), 2, 45)
theorem nv_X11_plain : am_NV mX11_plain 11 1 := ⟨pn_X11.1, lm_t6 _ (List.mem_of_getElem? (i := 54) rfl), lm_t1 _ (List.mem_of_getElem? (i := 13) rfl), ⟨pn_X11.2.1, pn_X11.2.2, by decide +kernel⟩, lm_t6 _ (List.mem_of_getElem? (i := 53) rfl), lm_s5 _ (List.mem_of_getElem? (i := 11) rfl), TX11, 33, rfl⟩
def mX11_numbersOf : amM := (yX11_numbersOf, cX11_numbersOf, 2, (some .int), 0, 0)
theorem ns_X11_numbersOf : am_NS mX11_numbersOf 2 := ⟨pn_X11.1, lm_t6 _ (List.mem_of_getElem? (i := 42) rfl), lm_t1 _ (List.mem_of_getElem? (i := 13) rfl), ⟨pn_X11.2.1, pn_X11.2.2, by decide +kernel⟩, lm_t6 _ (List.mem_of_getElem? (i := 41) rfl)⟩
def mX11_readOrder : amM := (yX11_readOrder, cX11_readOrder, 5, (some .int), 3, 67)
theorem nv_X11_readOrder : am_NV mX11_readOrder 11 1 := ⟨pn_X11.1, lm_t6 _ (List.mem_of_getElem? (i := 39) rfl), lm_t1 _ (List.mem_of_getElem? (i := 13) rfl), ⟨pn_X11.2.1, pn_X11.2.2, by decide +kernel⟩, lm_t6 _ (List.mem_of_getElem? (i := 38) rfl), lm_s5 _ (List.mem_of_getElem? (i := 8) rfl), TX11, 33, rfl⟩
def mX11_doOrder : amM := (yX11_doOrder, cX11_doOrder, 4, (some .int), 3, 69)
theorem nv_X11_doOrder : am_NV mX11_doOrder 11 1 := ⟨pn_X11.1, lm_t6 _ (List.mem_of_getElem? (i := 58) rfl), lm_t1 _ (List.mem_of_getElem? (i := 13) rfl), ⟨pn_X11.2.1, pn_X11.2.2, by decide +kernel⟩, lm_t6 _ (List.mem_of_getElem? (i := 57) rfl), lm_s5 _ (List.mem_of_getElem? (i := 12) rfl), TX11, 33, rfl⟩
def mX11_reads : amM := (yX11_reads, cX11_reads, 5, (some .int), 4, 92)
theorem nv_X11_reads : am_NV mX11_reads 11 0 := ⟨pn_X11.1, lm_t6 _ (List.mem_of_getElem? (i := 27) rfl), lm_t1 _ (List.mem_of_getElem? (i := 13) rfl), ⟨pn_X11.2.1, pn_X11.2.2, by decide +kernel⟩, lm_t6 _ (List.mem_of_getElem? (i := 25) rfl), lm_t6 _ (List.mem_of_getElem? (i := 26) rfl), TX11, 33, rfl⟩
def mX11_cause : amM := (yX11_cause, cX11_cause, 2, (some .int), 0, 0)
theorem nv_X11_cause : am_NV mX11_cause 11 1 := ⟨pn_X11.1, lm_t6 _ (List.mem_of_getElem? (i := 66) rfl), lm_t1 _ (List.mem_of_getElem? (i := 13) rfl), ⟨pn_X11.2.1, pn_X11.2.2, by decide +kernel⟩, lm_t6 _ (List.mem_of_getElem? (i := 65) rfl), lm_s5 _ (List.mem_of_getElem? (i := 13) rfl), TX11, 33, rfl⟩
def mX11_why : amM := (yX11_why, cX11_why, 2, (some .int), 1, 22)
theorem nv_X11_why : am_NV mX11_why 11 1 := ⟨pn_X11.1, lm_t6 _ (List.mem_of_getElem? (i := 62) rfl), lm_t1 _ (List.mem_of_getElem? (i := 13) rfl), ⟨pn_X11.2.1, pn_X11.2.2, by decide +kernel⟩, lm_t6 _ (List.mem_of_getElem? (i := 60) rfl), lm_t6 _ (List.mem_of_getElem? (i := 61) rfl), TX11, 33, rfl⟩
def mX11_toldOf : amM := (yX11_toldOf, cX11_toldOf, 2, (some .int), 5, 131)
theorem nv_X11_toldOf : am_NV mX11_toldOf 11 1 := ⟨pn_X11.1, lm_t6 _ (List.mem_of_getElem? (i := 74) rfl), lm_t1 _ (List.mem_of_getElem? (i := 13) rfl), ⟨pn_X11.2.1, pn_X11.2.2, by decide +kernel⟩, lm_t6 _ (List.mem_of_getElem? (i := 73) rfl), lm_s5 _ (List.mem_of_getElem? (i := 14) rfl), TX11, 33, rfl⟩
def mX11_told : amM := (yX11_told, cX11_told, 2, (some .int), 6, 152)
theorem nv_X11_told : am_NV mX11_told 11 1 := ⟨pn_X11.1, lm_t6 _ (List.mem_of_getElem? (i := 70) rfl), lm_t1 _ (List.mem_of_getElem? (i := 13) rfl), ⟨pn_X11.2.1, pn_X11.2.2, by decide +kernel⟩, lm_t6 _ (List.mem_of_getElem? (i := 68) rfl), lm_t6 _ (List.mem_of_getElem? (i := 69) rfl), TX11, 33, rfl⟩
def mX11_mix : amM := (yX11_mix, cX11_mix, 2, none, 0, 0)
theorem nv_X11_mix : am_NV mX11_mix 11 1 := ⟨pn_X11.1, lm_t6 _ (List.mem_of_getElem? (i := 83) rfl), lm_t1 _ (List.mem_of_getElem? (i := 13) rfl), ⟨pn_X11.2.1, pn_X11.2.2, by decide +kernel⟩, lm_t6 _ (List.mem_of_getElem? (i := 82) rfl), lm_s5 _ (List.mem_of_getElem? (i := 15) rfl), TX11, 33, rfl⟩
def mX11_digest : amM := (yX11_digest, cX11_digest, 3, (some .long), 7, 176)
theorem nv_X11_digest : am_NV mX11_digest 11 0 := ⟨pn_X11.1, lm_t6 _ (List.mem_of_getElem? (i := 78) rfl), lm_t1 _ (List.mem_of_getElem? (i := 13) rfl), ⟨pn_X11.2.1, pn_X11.2.2, by decide +kernel⟩, lm_t6 _ (List.mem_of_getElem? (i := 76) rfl), lm_t6 _ (List.mem_of_getElem? (i := 77) rfl), TX11, 33, rfl⟩
def mJ6_bitCount_0f7a4 : amM := (yJ6_bitCount_0f7a4, cJ6_bitCount_0f7a4, 1, (some .int), 0, 0)
theorem ns_J6_bitCount_0f7a4 : am_NS mJ6_bitCount_0f7a4 1 := ⟨pn_J6.1, lm_t2 _ (List.mem_of_getElem? (i := 177) rfl), lm_t1 _ (List.mem_of_getElem? (i := 15) rfl), ⟨pn_J6.2.1, pn_J6.2.2, by decide +kernel⟩, lm_t2 _ (List.mem_of_getElem? (i := 176) rfl)⟩
def mJ9_abs_0f7a4 : amM := (yJ9_abs_0f7a4, cJ9_abs_0f7a4, 1, (some .int), 0, 0)
def mJ9_abs_067f4 : amM := (yJ9_abs_067f4, cJ9_abs_067f4, 2, (some .long), 0, 0)
def mJ9_max_7cf53 : amM := (yJ9_max_7cf53, cJ9_max_7cf53, 2, (some .int), 0, 0)
def mJ9_min_7cf53 : amM := (yJ9_min_7cf53, cJ9_min_7cf53, 2, (some .int), 0, 0)
def mJ7_fill_53178 : amM := (yJ7_fill_53178, cJ7_fill_53178, 4, none, 0, 0)
theorem ns_J7_fill_53178 : am_NS mJ7_fill_53178 2 := ⟨pn_J7.1, lm_t3 _ (List.mem_of_getElem? (i := 98) rfl), lm_t1 _ (List.mem_of_getElem? (i := 16) rfl), ⟨pn_J7.2.1, pn_J7.2.2, by decide +kernel⟩, lm_t3 _ (List.mem_of_getElem? (i := 97) rfl)⟩
theorem ml_L_9 : Cond.methodLink RL 9 yX10_init ∈ lw_tbl := lm_t1 _ (List.mem_of_getElem? (i := 19) rfl)
theorem fl_X1_9 : am_FL RX1 9 1 0 := ⟨RX1, TX1, 4, rfl, by decide, in_X1, Or.inl (lm_t1 _ (List.mem_of_getElem? (i := 31) rfl))⟩
theorem fl_X1_15 : am_FL RX1 15 1 1 := ⟨RX1, TX1, 4, rfl, by decide, in_X1, Or.inl (lm_t1 _ (List.mem_of_getElem? (i := 32) rfl))⟩
theorem fp_X1_15 : am_FP RX1 15 1 1 .int := ⟨RX1, TX1, 4, tyX1, rfl, by decide, in_X1, Or.inl (lm_t1 _ (List.mem_of_getElem? (i := 32) rfl)), tyX1_ok, nmX1, rfl, rfl⟩
theorem fl_X5_19 : am_FL RX5 19 1 1 := ⟨RX1, TX1, 4, rfl, by decide, in_X1, Or.inr ⟨"PlaneCuts", lm_t1 _ (List.mem_of_getElem? (i := 33) rfl)⟩⟩
theorem fp_X5_19 : am_FP RX5 19 1 1 .int := ⟨RX1, TX1, 4, tyX1, rfl, by decide, in_X1, Or.inr ⟨"PlaneCuts", lm_t1 _ (List.mem_of_getElem? (i := 33) rfl)⟩, tyX1_ok, nmX1, rfl, rfl⟩
theorem fl_X2_36 : am_FL RX2 36 1 1 := ⟨RX1, TX1, 4, rfl, by decide, in_X1, Or.inr ⟨"PlaneCuts", lm_t1 _ (List.mem_of_getElem? (i := 34) rfl)⟩⟩
theorem fp_X2_36 : am_FP RX2 36 1 1 .int := ⟨RX1, TX1, 4, tyX1, rfl, by decide, in_X1, Or.inr ⟨"PlaneCuts", lm_t1 _ (List.mem_of_getElem? (i := 34) rfl)⟩, tyX1_ok, nmX1, rfl, rfl⟩
theorem fl_X6_68 : am_FL RX6 68 1 1 := ⟨RX1, TX1, 4, rfl, by decide, in_X1, Or.inr ⟨"PlaneCuts", lm_t1 _ (List.mem_of_getElem? (i := 35) rfl)⟩⟩
theorem fp_X6_68 : am_FP RX6 68 1 1 .int := ⟨RX1, TX1, 4, tyX1, rfl, by decide, in_X1, Or.inr ⟨"PlaneCuts", lm_t1 _ (List.mem_of_getElem? (i := 35) rfl)⟩, tyX1_ok, nmX1, rfl, rfl⟩
theorem fl_X10_117 : am_FL RX10 117 1 1 := ⟨RX1, TX1, 4, rfl, by decide, in_X1, Or.inr ⟨"PlaneCuts", lm_t1 _ (List.mem_of_getElem? (i := 36) rfl)⟩⟩
theorem fp_X10_117 : am_FP RX10 117 1 1 .int := ⟨RX1, TX1, 4, tyX1, rfl, by decide, in_X1, Or.inr ⟨"PlaneCuts", lm_t1 _ (List.mem_of_getElem? (i := 36) rfl)⟩, tyX1_ok, nmX1, rfl, rfl⟩
theorem fl_X1_19 : am_FL RX1 19 1 2 := ⟨RX1, TX1, 4, rfl, by decide, in_X1, Or.inl (lm_t1 _ (List.mem_of_getElem? (i := 37) rfl))⟩
theorem fp_X1_19 : am_FP RX1 19 1 2 .int := ⟨RX1, TX1, 4, tyX1, rfl, by decide, in_X1, Or.inl (lm_t1 _ (List.mem_of_getElem? (i := 37) rfl)), tyX1_ok, nmX1, rfl, rfl⟩
theorem fl_X2_30 : am_FL RX2 30 1 2 := ⟨RX1, TX1, 4, rfl, by decide, in_X1, Or.inr ⟨"PlaneCuts", lm_t1 _ (List.mem_of_getElem? (i := 38) rfl)⟩⟩
theorem fp_X2_30 : am_FP RX2 30 1 2 .int := ⟨RX1, TX1, 4, tyX1, rfl, by decide, in_X1, Or.inr ⟨"PlaneCuts", lm_t1 _ (List.mem_of_getElem? (i := 38) rfl)⟩, tyX1_ok, nmX1, rfl, rfl⟩
theorem fl_X5_30 : am_FL RX5 30 1 2 := ⟨RX1, TX1, 4, rfl, by decide, in_X1, Or.inr ⟨"PlaneCuts", lm_t1 _ (List.mem_of_getElem? (i := 39) rfl)⟩⟩
theorem fp_X5_30 : am_FP RX5 30 1 2 .int := ⟨RX1, TX1, 4, tyX1, rfl, by decide, in_X1, Or.inr ⟨"PlaneCuts", lm_t1 _ (List.mem_of_getElem? (i := 39) rfl)⟩, tyX1_ok, nmX1, rfl, rfl⟩
theorem fl_X0_68 : am_FL RX0 68 1 2 := ⟨RX1, TX1, 4, rfl, by decide, in_X1, Or.inr ⟨"PlaneCuts", lm_t1 _ (List.mem_of_getElem? (i := 40) rfl)⟩⟩
theorem fp_X0_68 : am_FP RX0 68 1 2 .int := ⟨RX1, TX1, 4, tyX1, rfl, by decide, in_X1, Or.inr ⟨"PlaneCuts", lm_t1 _ (List.mem_of_getElem? (i := 40) rfl)⟩, tyX1_ok, nmX1, rfl, rfl⟩
theorem fl_X8_78 : am_FL RX8 78 1 2 := ⟨RX1, TX1, 4, rfl, by decide, in_X1, Or.inr ⟨"PlaneCuts", lm_t1 _ (List.mem_of_getElem? (i := 41) rfl)⟩⟩
theorem fp_X8_78 : am_FP RX8 78 1 2 .int := ⟨RX1, TX1, 4, tyX1, rfl, by decide, in_X1, Or.inr ⟨"PlaneCuts", lm_t1 _ (List.mem_of_getElem? (i := 41) rfl)⟩, tyX1_ok, nmX1, rfl, rfl⟩
theorem fl_X6_83 : am_FL RX6 83 1 2 := ⟨RX1, TX1, 4, rfl, by decide, in_X1, Or.inr ⟨"PlaneCuts", lm_t1 _ (List.mem_of_getElem? (i := 42) rfl)⟩⟩
theorem fp_X6_83 : am_FP RX6 83 1 2 .int := ⟨RX1, TX1, 4, tyX1, rfl, by decide, in_X1, Or.inr ⟨"PlaneCuts", lm_t1 _ (List.mem_of_getElem? (i := 42) rfl)⟩, tyX1_ok, nmX1, rfl, rfl⟩
theorem fl_X10_246 : am_FL RX10 246 1 2 := ⟨RX1, TX1, 4, rfl, by decide, in_X1, Or.inr ⟨"PlaneCuts", lm_t1 _ (List.mem_of_getElem? (i := 43) rfl)⟩⟩
theorem fp_X10_246 : am_FP RX10 246 1 2 .int := ⟨RX1, TX1, 4, tyX1, rfl, by decide, in_X1, Or.inr ⟨"PlaneCuts", lm_t1 _ (List.mem_of_getElem? (i := 43) rfl)⟩, tyX1_ok, nmX1, rfl, rfl⟩
theorem fl_X6_49 : am_FL RX6 49 1 3 := ⟨RX1, TX1, 4, rfl, by decide, in_X1, Or.inr ⟨"PlaneCuts", lm_t1 _ (List.mem_of_getElem? (i := 44) rfl)⟩⟩
theorem fp_X6_49 : am_FP RX6 49 1 3 .int := ⟨RX1, TX1, 4, tyX1, rfl, by decide, in_X1, Or.inr ⟨"PlaneCuts", lm_t1 _ (List.mem_of_getElem? (i := 44) rfl)⟩, tyX1_ok, nmX1, rfl, rfl⟩
theorem fl_X8_40 : am_FL RX8 40 1 3 := ⟨RX1, TX1, 4, rfl, by decide, in_X1, Or.inr ⟨"PlaneCuts", lm_t1 _ (List.mem_of_getElem? (i := 45) rfl)⟩⟩
theorem fp_X8_40 : am_FP RX8 40 1 3 .int := ⟨RX1, TX1, 4, tyX1, rfl, by decide, in_X1, Or.inr ⟨"PlaneCuts", lm_t1 _ (List.mem_of_getElem? (i := 45) rfl)⟩, tyX1_ok, nmX1, rfl, rfl⟩
theorem fl_X7_34 : am_FL RX7 34 1 3 := ⟨RX1, TX1, 4, rfl, by decide, in_X1, Or.inr ⟨"PlaneCuts", lm_t1 _ (List.mem_of_getElem? (i := 46) rfl)⟩⟩
theorem fp_X7_34 : am_FP RX7 34 1 3 .int := ⟨RX1, TX1, 4, tyX1, rfl, by decide, in_X1, Or.inr ⟨"PlaneCuts", lm_t1 _ (List.mem_of_getElem? (i := 46) rfl)⟩, tyX1_ok, nmX1, rfl, rfl⟩
theorem fl_X0_39 : am_FL RX0 39 1 3 := ⟨RX1, TX1, 4, rfl, by decide, in_X1, Or.inr ⟨"PlaneCuts", lm_t1 _ (List.mem_of_getElem? (i := 47) rfl)⟩⟩
theorem fp_X0_39 : am_FP RX0 39 1 3 .int := ⟨RX1, TX1, 4, tyX1, rfl, by decide, in_X1, Or.inr ⟨"PlaneCuts", lm_t1 _ (List.mem_of_getElem? (i := 47) rfl)⟩, tyX1_ok, nmX1, rfl, rfl⟩
theorem fl_X1_32 : am_FL RX1 32 1 3 := ⟨RX1, TX1, 4, rfl, by decide, in_X1, Or.inl (lm_t1 _ (List.mem_of_getElem? (i := 48) rfl))⟩
theorem fp_X1_32 : am_FP RX1 32 1 3 .int := ⟨RX1, TX1, 4, tyX1, rfl, by decide, in_X1, Or.inl (lm_t1 _ (List.mem_of_getElem? (i := 48) rfl)), tyX1_ok, nmX1, rfl, rfl⟩
theorem ml_X10_14 : Cond.methodLink RX10 14 yX6_init ∈ lw_tbl := lm_t1 _ (List.mem_of_getElem? (i := 61) rfl)
theorem fl_X5_11 : am_FL RX5 11 5 0 := ⟨RX5, TX5, 4, rfl, by decide, in_X5, Or.inl (lm_t1 _ (List.mem_of_getElem? (i := 71) rfl))⟩
theorem fl_X5_15 : am_FL RX5 15 5 1 := ⟨RX5, TX5, 4, rfl, by decide, in_X5, Or.inl (lm_t1 _ (List.mem_of_getElem? (i := 72) rfl))⟩
theorem fp_X5_15 : am_FP RX5 15 5 1 .int := ⟨RX5, TX5, 4, tyX5, rfl, by decide, in_X5, Or.inl (lm_t1 _ (List.mem_of_getElem? (i := 72) rfl)), tyX5_ok, nmX5, rfl, rfl⟩
theorem fl_X5_24 : am_FL RX5 24 5 2 := ⟨RX5, TX5, 4, rfl, by decide, in_X5, Or.inl (lm_t1 _ (List.mem_of_getElem? (i := 73) rfl))⟩
theorem fp_X5_24 : am_FP RX5 24 5 2 .int := ⟨RX5, TX5, 4, tyX5, rfl, by decide, in_X5, Or.inl (lm_t1 _ (List.mem_of_getElem? (i := 73) rfl)), tyX5_ok, nmX5, rfl, rfl⟩
theorem fl_X5_27 : am_FL RX5 27 5 3 := ⟨RX5, TX5, 4, rfl, by decide, in_X5, Or.inl (lm_t1 _ (List.mem_of_getElem? (i := 74) rfl))⟩
theorem fp_X5_27 : am_FP RX5 27 5 3 .int := ⟨RX5, TX5, 4, tyX5, rfl, by decide, in_X5, Or.inl (lm_t1 _ (List.mem_of_getElem? (i := 74) rfl)), tyX5_ok, nmX5, rfl, rfl⟩
theorem ml_X6_28 : Cond.methodLink RX6 28 yX4_init ∈ lw_tbl := lm_t1 _ (List.mem_of_getElem? (i := 87) rfl)
theorem ml_X4_9 : Cond.methodLink RX4 9 yJ9_max_7cf53 ∈ lw_tbl := lm_t1 _ (List.mem_of_getElem? (i := 91) rfl)
theorem fl_X4_15 : am_FL RX4 15 4 0 := ⟨RX4, TX4, 2, rfl, by decide, in_X4, Or.inl (lm_t1 _ (List.mem_of_getElem? (i := 94) rfl))⟩
theorem fl_X0_61 : am_FL RX0 61 4 0 := ⟨RX4, TX4, 2, rfl, by decide, in_X4, Or.inr ⟨"PlaneCuts", lm_t1 _ (List.mem_of_getElem? (i := 95) rfl)⟩⟩
theorem fl_X8_60 : am_FL RX8 60 4 0 := ⟨RX4, TX4, 2, rfl, by decide, in_X4, Or.inr ⟨"PlaneCuts", lm_t1 _ (List.mem_of_getElem? (i := 96) rfl)⟩⟩
theorem fl_X10_154 : am_FL RX10 154 4 0 := ⟨RX4, TX4, 2, rfl, by decide, in_X4, Or.inr ⟨"PlaneCuts", lm_t1 _ (List.mem_of_getElem? (i := 97) rfl)⟩⟩
theorem fl_X4_21 : am_FL RX4 21 4 1 := ⟨RX4, TX4, 2, rfl, by decide, in_X4, Or.inl (lm_t1 _ (List.mem_of_getElem? (i := 98) rfl))⟩
theorem fp_X4_21 : am_FP RX4 21 4 1 .int := ⟨RX4, TX4, 2, tyX4, rfl, by decide, in_X4, Or.inl (lm_t1 _ (List.mem_of_getElem? (i := 98) rfl)), tyX4_ok, nmX4, rfl, rfl⟩
theorem fl_X0_58 : am_FL RX0 58 4 1 := ⟨RX4, TX4, 2, rfl, by decide, in_X4, Or.inr ⟨"PlaneCuts", lm_t1 _ (List.mem_of_getElem? (i := 99) rfl)⟩⟩
theorem fp_X0_58 : am_FP RX0 58 4 1 .int := ⟨RX4, TX4, 2, tyX4, rfl, by decide, in_X4, Or.inr ⟨"PlaneCuts", lm_t1 _ (List.mem_of_getElem? (i := 99) rfl)⟩, tyX4_ok, nmX4, rfl, rfl⟩
theorem fl_X8_57 : am_FL RX8 57 4 1 := ⟨RX4, TX4, 2, rfl, by decide, in_X4, Or.inr ⟨"PlaneCuts", lm_t1 _ (List.mem_of_getElem? (i := 100) rfl)⟩⟩
theorem fp_X8_57 : am_FP RX8 57 4 1 .int := ⟨RX4, TX4, 2, tyX4, rfl, by decide, in_X4, Or.inr ⟨"PlaneCuts", lm_t1 _ (List.mem_of_getElem? (i := 100) rfl)⟩, tyX4_ok, nmX4, rfl, rfl⟩
theorem fl_X6_65 : am_FL RX6 65 4 1 := ⟨RX4, TX4, 2, rfl, by decide, in_X4, Or.inr ⟨"PlaneCuts", lm_t1 _ (List.mem_of_getElem? (i := 101) rfl)⟩⟩
theorem fp_X6_65 : am_FP RX6 65 4 1 .int := ⟨RX4, TX4, 2, tyX4, rfl, by decide, in_X4, Or.inr ⟨"PlaneCuts", lm_t1 _ (List.mem_of_getElem? (i := 101) rfl)⟩, tyX4_ok, nmX4, rfl, rfl⟩
theorem fl_X10_151 : am_FL RX10 151 4 1 := ⟨RX4, TX4, 2, rfl, by decide, in_X4, Or.inr ⟨"PlaneCuts", lm_t1 _ (List.mem_of_getElem? (i := 102) rfl)⟩⟩
theorem fp_X10_151 : am_FP RX10 151 4 1 .int := ⟨RX4, TX4, 2, tyX4, rfl, by decide, in_X4, Or.inr ⟨"PlaneCuts", lm_t1 _ (List.mem_of_getElem? (i := 102) rfl)⟩, tyX4_ok, nmX4, rfl, rfl⟩
theorem fl_X6_45 : am_FL RX6 45 6 0 := ⟨RX6, TX6, 8, rfl, by decide, in_X6, Or.inl (lm_t1 _ (List.mem_of_getElem? (i := 109) rfl))⟩
theorem fl_X6_12 : am_FL RX6 12 6 1 := ⟨RX6, TX6, 8, rfl, by decide, in_X6, Or.inl (lm_t1 _ (List.mem_of_getElem? (i := 110) rfl))⟩
theorem fl_X6_18 : am_FL RX6 18 6 2 := ⟨RX6, TX6, 8, rfl, by decide, in_X6, Or.inl (lm_t1 _ (List.mem_of_getElem? (i := 111) rfl))⟩
theorem fl_X7_59 : am_FL RX7 59 6 2 := ⟨RX6, TX6, 8, rfl, by decide, in_X6, Or.inr ⟨"PlaneCuts", lm_t1 _ (List.mem_of_getElem? (i := 112) rfl)⟩⟩
theorem fl_X6_22 : am_FL RX6 22 6 3 := ⟨RX6, TX6, 8, rfl, by decide, in_X6, Or.inl (lm_t1 _ (List.mem_of_getElem? (i := 113) rfl))⟩
theorem fl_X7_48 : am_FL RX7 48 6 3 := ⟨RX6, TX6, 8, rfl, by decide, in_X6, Or.inr ⟨"PlaneCuts", lm_t1 _ (List.mem_of_getElem? (i := 114) rfl)⟩⟩
theorem fl_X6_31 : am_FL RX6 31 6 4 := ⟨RX6, TX6, 8, rfl, by decide, in_X6, Or.inl (lm_t1 _ (List.mem_of_getElem? (i := 115) rfl))⟩
theorem fl_X0_55 : am_FL RX0 55 6 4 := ⟨RX6, TX6, 8, rfl, by decide, in_X6, Or.inr ⟨"PlaneCuts", lm_t1 _ (List.mem_of_getElem? (i := 116) rfl)⟩⟩
theorem fl_X8_54 : am_FL RX8 54 6 4 := ⟨RX6, TX6, 8, rfl, by decide, in_X6, Or.inr ⟨"PlaneCuts", lm_t1 _ (List.mem_of_getElem? (i := 117) rfl)⟩⟩
theorem fl_X6_35 : am_FL RX6 35 6 5 := ⟨RX6, TX6, 8, rfl, by decide, in_X6, Or.inl (lm_t1 _ (List.mem_of_getElem? (i := 118) rfl))⟩
theorem fl_X6_38 : am_FL RX6 38 6 6 := ⟨RX6, TX6, 8, rfl, by decide, in_X6, Or.inl (lm_t1 _ (List.mem_of_getElem? (i := 119) rfl))⟩
theorem fl_X6_41 : am_FL RX6 41 6 7 := ⟨RX6, TX6, 8, rfl, by decide, in_X6, Or.inl (lm_t1 _ (List.mem_of_getElem? (i := 120) rfl))⟩
theorem fp_X6_41 : am_FP RX6 41 6 7 .int := ⟨RX6, TX6, 8, tyX6, rfl, by decide, in_X6, Or.inl (lm_t1 _ (List.mem_of_getElem? (i := 120) rfl)), tyX6_ok, nmX6, rfl, rfl⟩
theorem ml_X10_30 : Cond.methodLink RX10 30 yX3_init ∈ lw_tbl := lm_t1 _ (List.mem_of_getElem? (i := 140) rfl)
theorem fl_X3_11 : am_FL RX3 11 3 0 := ⟨RX3, TX3, 3, rfl, by decide, in_X3, Or.inl (lm_t1 _ (List.mem_of_getElem? (i := 147) rfl))⟩
theorem fl_X3_18 : am_FL RX3 18 3 1 := ⟨RX3, TX3, 3, rfl, by decide, in_X3, Or.inl (lm_t1 _ (List.mem_of_getElem? (i := 148) rfl))⟩
theorem fp_X3_18 : am_FP RX3 18 3 1 .int := ⟨RX3, TX3, 3, tyX3, rfl, by decide, in_X3, Or.inl (lm_t1 _ (List.mem_of_getElem? (i := 148) rfl)), tyX3_ok, nmX3, rfl, rfl⟩
theorem fl_X3_26 : am_FL RX3 26 3 2 := ⟨RX3, TX3, 3, rfl, by decide, in_X3, Or.inl (lm_t1 _ (List.mem_of_getElem? (i := 149) rfl))⟩
theorem fp_X3_26 : am_FP RX3 26 3 2 .int := ⟨RX3, TX3, 3, tyX3, rfl, by decide, in_X3, Or.inl (lm_t1 _ (List.mem_of_getElem? (i := 149) rfl)), tyX3_ok, nmX3, rfl, rfl⟩
theorem fl_X10_236 : am_FL RX10 236 3 2 := ⟨RX3, TX3, 3, rfl, by decide, in_X3, Or.inr ⟨"PlaneCuts", lm_t1 _ (List.mem_of_getElem? (i := 150) rfl)⟩⟩
theorem fp_X10_236 : am_FP RX10 236 3 2 .int := ⟨RX3, TX3, 3, tyX3, rfl, by decide, in_X3, Or.inr ⟨"PlaneCuts", lm_t1 _ (List.mem_of_getElem? (i := 150) rfl)⟩, tyX3_ok, nmX3, rfl, rfl⟩
theorem ml_X10_37 : Cond.methodLink RX10 37 yX8_init ∈ lw_tbl := lm_t1 _ (List.mem_of_getElem? (i := 160) rfl)
theorem ml_X8_21 : Cond.methodLink RX8 21 yX4_init ∈ lw_tbl := lm_t1 _ (List.mem_of_getElem? (i := 165) rfl)
theorem fl_X8_32 : am_FL RX8 32 8 0 := ⟨RX8, TX8, 6, rfl, by decide, in_X8, Or.inl (lm_t1 _ (List.mem_of_getElem? (i := 166) rfl))⟩
theorem fl_X8_36 : am_FL RX8 36 8 1 := ⟨RX8, TX8, 6, rfl, by decide, in_X8, Or.inl (lm_t1 _ (List.mem_of_getElem? (i := 167) rfl))⟩
theorem fl_X8_9 : am_FL RX8 9 8 2 := ⟨RX8, TX8, 6, rfl, by decide, in_X8, Or.inl (lm_t1 _ (List.mem_of_getElem? (i := 168) rfl))⟩
theorem fl_X8_15 : am_FL RX8 15 8 3 := ⟨RX8, TX8, 6, rfl, by decide, in_X8, Or.inl (lm_t1 _ (List.mem_of_getElem? (i := 169) rfl))⟩
theorem fl_X8_24 : am_FL RX8 24 8 4 := ⟨RX8, TX8, 6, rfl, by decide, in_X8, Or.inl (lm_t1 _ (List.mem_of_getElem? (i := 170) rfl))⟩
theorem fl_X8_28 : am_FL RX8 28 8 5 := ⟨RX8, TX8, 6, rfl, by decide, in_X8, Or.inl (lm_t1 _ (List.mem_of_getElem? (i := 171) rfl))⟩
theorem fp_X8_28 : am_FP RX8 28 8 5 .int := ⟨RX8, TX8, 6, tyX8, rfl, by decide, in_X8, Or.inl (lm_t1 _ (List.mem_of_getElem? (i := 171) rfl)), tyX8_ok, nmX8, rfl, rfl⟩
theorem ml_X10_46 : Cond.methodLink RX10 46 yX7_init ∈ lw_tbl := lm_t1 _ (List.mem_of_getElem? (i := 187) rfl)
theorem fl_X7_26 : am_FL RX7 26 7 0 := ⟨RX7, TX7, 6, rfl, by decide, in_X7, Or.inl (lm_t1 _ (List.mem_of_getElem? (i := 191) rfl))⟩
theorem fl_X7_30 : am_FL RX7 30 7 1 := ⟨RX7, TX7, 6, rfl, by decide, in_X7, Or.inl (lm_t1 _ (List.mem_of_getElem? (i := 192) rfl))⟩
theorem fl_X7_9 : am_FL RX7 9 7 2 := ⟨RX7, TX7, 6, rfl, by decide, in_X7, Or.inl (lm_t1 _ (List.mem_of_getElem? (i := 193) rfl))⟩
theorem fl_X7_15 : am_FL RX7 15 7 3 := ⟨RX7, TX7, 6, rfl, by decide, in_X7, Or.inl (lm_t1 _ (List.mem_of_getElem? (i := 194) rfl))⟩
theorem fl_X7_18 : am_FL RX7 18 7 4 := ⟨RX7, TX7, 6, rfl, by decide, in_X7, Or.inl (lm_t1 _ (List.mem_of_getElem? (i := 195) rfl))⟩
theorem fl_X7_22 : am_FL RX7 22 7 5 := ⟨RX7, TX7, 6, rfl, by decide, in_X7, Or.inl (lm_t1 _ (List.mem_of_getElem? (i := 196) rfl))⟩
theorem fp_X7_22 : am_FP RX7 22 7 5 .int := ⟨RX7, TX7, 6, tyX7, rfl, by decide, in_X7, Or.inl (lm_t1 _ (List.mem_of_getElem? (i := 196) rfl)), tyX7_ok, nmX7, rfl, rfl⟩
theorem ml_X10_53 : Cond.methodLink RX10 53 yX2_init ∈ lw_tbl := lm_t1 _ (List.mem_of_getElem? (i := 212) rfl)
theorem fl_X2_22 : am_FL RX2 22 2 0 := ⟨RX2, TX2, 4, rfl, by decide, in_X2, Or.inl (lm_t1 _ (List.mem_of_getElem? (i := 218) rfl))⟩
theorem fl_X2_26 : am_FL RX2 26 2 1 := ⟨RX2, TX2, 4, rfl, by decide, in_X2, Or.inl (lm_t1 _ (List.mem_of_getElem? (i := 219) rfl))⟩
theorem fl_X2_12 : am_FL RX2 12 2 2 := ⟨RX2, TX2, 4, rfl, by decide, in_X2, Or.inl (lm_t1 _ (List.mem_of_getElem? (i := 220) rfl))⟩
theorem fl_X2_18 : am_FL RX2 18 2 3 := ⟨RX2, TX2, 4, rfl, by decide, in_X2, Or.inl (lm_t1 _ (List.mem_of_getElem? (i := 221) rfl))⟩
theorem ml_X10_60 : Cond.methodLink RX10 60 yX0_init ∈ lw_tbl := lm_t1 _ (List.mem_of_getElem? (i := 233) rfl)
theorem ml_X0_20 : Cond.methodLink RX0 20 yX4_init ∈ lw_tbl := lm_t1 _ (List.mem_of_getElem? (i := 238) rfl)
theorem fl_X0_31 : am_FL RX0 31 0 0 := ⟨RX0, TX0, 6, rfl, by decide, in_X0, Or.inl (lm_t1 _ (List.mem_of_getElem? (i := 239) rfl))⟩
theorem fl_X0_35 : am_FL RX0 35 0 1 := ⟨RX0, TX0, 6, rfl, by decide, in_X0, Or.inl (lm_t2 _ (List.mem_of_getElem? (i := 0) rfl))⟩
theorem fl_X0_9 : am_FL RX0 9 0 2 := ⟨RX0, TX0, 6, rfl, by decide, in_X0, Or.inl (lm_t2 _ (List.mem_of_getElem? (i := 1) rfl))⟩
theorem fl_X0_15 : am_FL RX0 15 0 3 := ⟨RX0, TX0, 6, rfl, by decide, in_X0, Or.inl (lm_t2 _ (List.mem_of_getElem? (i := 2) rfl))⟩
theorem fl_X0_23 : am_FL RX0 23 0 4 := ⟨RX0, TX0, 6, rfl, by decide, in_X0, Or.inl (lm_t2 _ (List.mem_of_getElem? (i := 3) rfl))⟩
theorem fl_X0_27 : am_FL RX0 27 0 5 := ⟨RX0, TX0, 6, rfl, by decide, in_X0, Or.inl (lm_t2 _ (List.mem_of_getElem? (i := 4) rfl))⟩
theorem fp_X0_27 : am_FP RX0 27 0 5 .int := ⟨RX0, TX0, 6, tyX0, rfl, by decide, in_X0, Or.inl (lm_t2 _ (List.mem_of_getElem? (i := 4) rfl)), tyX0_ok, nmX0, rfl, rfl⟩
theorem fl_X9_9 : am_FL RX9 9 9 0 := ⟨RX9, TX9, 6, rfl, by decide, in_X9, Or.inl (lm_t2 _ (List.mem_of_getElem? (i := 24) rfl))⟩
theorem fl_X9_15 : am_FL RX9 15 9 1 := ⟨RX9, TX9, 6, rfl, by decide, in_X9, Or.inl (lm_t2 _ (List.mem_of_getElem? (i := 25) rfl))⟩
theorem fl_X9_19 : am_FL RX9 19 9 2 := ⟨RX9, TX9, 6, rfl, by decide, in_X9, Or.inl (lm_t2 _ (List.mem_of_getElem? (i := 26) rfl))⟩
theorem fl_X9_22 : am_FL RX9 22 9 3 := ⟨RX9, TX9, 6, rfl, by decide, in_X9, Or.inl (lm_t2 _ (List.mem_of_getElem? (i := 27) rfl))⟩
theorem fp_X9_22 : am_FP RX9 22 9 3 .int := ⟨RX9, TX9, 6, tyX9, rfl, by decide, in_X9, Or.inl (lm_t2 _ (List.mem_of_getElem? (i := 27) rfl)), tyX9_ok, nmX9, rfl, rfl⟩
theorem fl_X10_214 : am_FL RX10 214 9 3 := ⟨RX9, TX9, 6, rfl, by decide, in_X9, Or.inr ⟨"PlaneCuts", lm_t2 _ (List.mem_of_getElem? (i := 28) rfl)⟩⟩
theorem fp_X10_214 : am_FP RX10 214 9 3 .int := ⟨RX9, TX9, 6, tyX9, rfl, by decide, in_X9, Or.inr ⟨"PlaneCuts", lm_t2 _ (List.mem_of_getElem? (i := 28) rfl)⟩, tyX9_ok, nmX9, rfl, rfl⟩
theorem fl_X9_26 : am_FL RX9 26 9 4 := ⟨RX9, TX9, 6, rfl, by decide, in_X9, Or.inl (lm_t2 _ (List.mem_of_getElem? (i := 29) rfl))⟩
theorem fp_X9_26 : am_FP RX9 26 9 4 .int := ⟨RX9, TX9, 6, tyX9, rfl, by decide, in_X9, Or.inl (lm_t2 _ (List.mem_of_getElem? (i := 29) rfl)), tyX9_ok, nmX9, rfl, rfl⟩
theorem fl_X10_220 : am_FL RX10 220 9 4 := ⟨RX9, TX9, 6, rfl, by decide, in_X9, Or.inr ⟨"PlaneCuts", lm_t2 _ (List.mem_of_getElem? (i := 30) rfl)⟩⟩
theorem fp_X10_220 : am_FP RX10 220 9 4 .int := ⟨RX9, TX9, 6, tyX9, rfl, by decide, in_X9, Or.inr ⟨"PlaneCuts", lm_t2 _ (List.mem_of_getElem? (i := 30) rfl)⟩, tyX9_ok, nmX9, rfl, rfl⟩
theorem fl_X9_29 : am_FL RX9 29 9 5 := ⟨RX9, TX9, 6, rfl, by decide, in_X9, Or.inl (lm_t2 _ (List.mem_of_getElem? (i := 31) rfl))⟩
theorem fp_X9_29 : am_FP RX9 29 9 5 .int := ⟨RX9, TX9, 6, tyX9, rfl, by decide, in_X9, Or.inl (lm_t2 _ (List.mem_of_getElem? (i := 31) rfl)), tyX9_ok, nmX9, rfl, rfl⟩
theorem fl_X10_17 : am_FL RX10 17 10 0 := ⟨RX10, TX10, 14, rfl, by decide, in_X10, Or.inl (lm_t2 _ (List.mem_of_getElem? (i := 46) rfl))⟩
theorem fl_X10_25 : am_FL RX10 25 10 1 := ⟨RX10, TX10, 14, rfl, by decide, in_X10, Or.inl (lm_t2 _ (List.mem_of_getElem? (i := 47) rfl))⟩
theorem fl_X10_31 : am_FL RX10 31 10 2 := ⟨RX10, TX10, 14, rfl, by decide, in_X10, Or.inl (lm_t2 _ (List.mem_of_getElem? (i := 48) rfl))⟩
theorem fl_X10_21 : am_FL RX10 21 10 3 := ⟨RX10, TX10, 14, rfl, by decide, in_X10, Or.inl (lm_t2 _ (List.mem_of_getElem? (i := 49) rfl))⟩
theorem fl_X10_40 : am_FL RX10 40 10 4 := ⟨RX10, TX10, 14, rfl, by decide, in_X10, Or.inl (lm_t2 _ (List.mem_of_getElem? (i := 50) rfl))⟩
theorem fl_X10_47 : am_FL RX10 47 10 5 := ⟨RX10, TX10, 14, rfl, by decide, in_X10, Or.inl (lm_t2 _ (List.mem_of_getElem? (i := 51) rfl))⟩
theorem fl_X10_54 : am_FL RX10 54 10 6 := ⟨RX10, TX10, 14, rfl, by decide, in_X10, Or.inl (lm_t2 _ (List.mem_of_getElem? (i := 52) rfl))⟩
theorem fl_X10_61 : am_FL RX10 61 10 7 := ⟨RX10, TX10, 14, rfl, by decide, in_X10, Or.inl (lm_t2 _ (List.mem_of_getElem? (i := 53) rfl))⟩
theorem fl_X10_68 : am_FL RX10 68 10 8 := ⟨RX10, TX10, 14, rfl, by decide, in_X10, Or.inl (lm_t2 _ (List.mem_of_getElem? (i := 54) rfl))⟩
theorem fl_X10_237 : am_FL RX10 237 10 9 := ⟨RX10, TX10, 14, rfl, by decide, in_X10, Or.inl (lm_t2 _ (List.mem_of_getElem? (i := 55) rfl))⟩
theorem fp_X10_237 : am_FP RX10 237 10 9 .int := ⟨RX10, TX10, 14, tyX10, rfl, by decide, in_X10, Or.inl (lm_t2 _ (List.mem_of_getElem? (i := 55) rfl)), tyX10_ok, nmX10, rfl, rfl⟩
theorem fl_X10_240 : am_FL RX10 240 10 10 := ⟨RX10, TX10, 14, rfl, by decide, in_X10, Or.inl (lm_t2 _ (List.mem_of_getElem? (i := 56) rfl))⟩
theorem fp_X10_240 : am_FP RX10 240 10 10 .int := ⟨RX10, TX10, 14, tyX10, rfl, by decide, in_X10, Or.inl (lm_t2 _ (List.mem_of_getElem? (i := 56) rfl)), tyX10_ok, nmX10, rfl, rfl⟩
theorem fl_X10_243 : am_FL RX10 243 10 11 := ⟨RX10, TX10, 14, rfl, by decide, in_X10, Or.inl (lm_t2 _ (List.mem_of_getElem? (i := 57) rfl))⟩
theorem fp_X10_243 : am_FP RX10 243 10 11 .int := ⟨RX10, TX10, 14, tyX10, rfl, by decide, in_X10, Or.inl (lm_t2 _ (List.mem_of_getElem? (i := 57) rfl)), tyX10_ok, nmX10, rfl, rfl⟩
theorem fl_X10_226 : am_FL RX10 226 10 12 := ⟨RX10, TX10, 14, rfl, by decide, in_X10, Or.inl (lm_t2 _ (List.mem_of_getElem? (i := 58) rfl))⟩
theorem fp_X10_226 : am_FP RX10 226 10 12 .int := ⟨RX10, TX10, 14, tyX10, rfl, by decide, in_X10, Or.inl (lm_t2 _ (List.mem_of_getElem? (i := 58) rfl)), tyX10_ok, nmX10, rfl, rfl⟩
theorem fl_X10_72 : am_FL RX10 72 10 13 := ⟨RX10, TX10, 14, rfl, by decide, in_X10, Or.inl (lm_t2 _ (List.mem_of_getElem? (i := 59) rfl))⟩
theorem fp_X10_72 : am_FP RX10 72 10 13 .int := ⟨RX10, TX10, 14, tyX10, rfl, by decide, in_X10, Or.inl (lm_t2 _ (List.mem_of_getElem? (i := 59) rfl)), tyX10_ok, nmX10, rfl, rfl⟩
theorem ml_L_13 : Cond.methodLink RL 13 yX10_space ∈ lw_tbl := lm_t2 _ (List.mem_of_getElem? (i := 89) rfl)
theorem ml_X10_76 : Cond.methodLink RX10 76 yX1_copyFrom ∈ lw_tbl := lm_t2 _ (List.mem_of_getElem? (i := 93) rfl)
theorem ml_X1_26 : Cond.methodLink RX1 26 arraycopyName ∈ lw_tbl := lm_t2 _ (List.mem_of_getElem? (i := 97) rfl)
theorem ml_X10_79 : Cond.methodLink RX10 79 yX1_restart ∈ lw_tbl := lm_t2 _ (List.mem_of_getElem? (i := 100) rfl)
theorem ml_X10_83 : Cond.methodLink RX10 83 yX10_settled ∈ lw_tbl := lm_t2 _ (List.mem_of_getElem? (i := 104) rfl)
theorem ml_X10_120 : Cond.methodLink RX10 120 yX10_refused ∈ lw_tbl := lm_t2 _ (List.mem_of_getElem? (i := 108) rfl)
theorem ml_X10_229 : Cond.methodLink RX10 229 yX3_keep ∈ lw_tbl := lm_t2 _ (List.mem_of_getElem? (i := 112) rfl)
theorem ml_X3_22 : Cond.methodLink RX3 22 yX1_copyFrom ∈ lw_tbl := lm_t2 _ (List.mem_of_getElem? (i := 116) rfl)
theorem ml_X3_29 : Cond.methodLink RX3 29 yJ9_min_7cf53 ∈ lw_tbl := lm_t2 _ (List.mem_of_getElem? (i := 117) rfl)
theorem ml_L_18 : Cond.methodLink RL 18 yX10_plane ∈ lw_tbl := lm_t2 _ (List.mem_of_getElem? (i := 120) rfl)
theorem ml_X10_86 : Cond.methodLink RX10 86 yX1_add ∈ lw_tbl := lm_t2 _ (List.mem_of_getElem? (i := 124) rfl)
theorem ml_X1_35 : Cond.methodLink RX1 35 yX1_isCoefficient ∈ lw_tbl := lm_t2 _ (List.mem_of_getElem? (i := 128) rfl)
theorem ml_X1_39 : Cond.methodLink RX1 39 yX1_isSame ∈ lw_tbl := lm_t2 _ (List.mem_of_getElem? (i := 131) rfl)
theorem ml_X1_47 : Cond.methodLink RX1 47 yX1_at ∈ lw_tbl := lm_t2 _ (List.mem_of_getElem? (i := 135) rfl)
theorem ml_X1_43 : Cond.methodLink RX1 43 yX1_put ∈ lw_tbl := lm_t2 _ (List.mem_of_getElem? (i := 139) rfl)
theorem ml_L_23 : Cond.methodLink RL 23 yX10_turns ∈ lw_tbl := lm_t2 _ (List.mem_of_getElem? (i := 143) rfl)
theorem ml_X10_90 : Cond.methodLink RX10 90 yX1_negate ∈ lw_tbl := lm_t2 _ (List.mem_of_getElem? (i := 147) rfl)
theorem ml_X1_51 : Cond.methodLink RX1 51 yX1_has ∈ lw_tbl := lm_t2 _ (List.mem_of_getElem? (i := 151) rfl)
theorem ml_X10_93 : Cond.methodLink RX10 93 yX6_countRegions ∈ lw_tbl := lm_t2 _ (List.mem_of_getElem? (i := 155) rfl)
theorem ml_X6_126 : Cond.methodLink RX6 126 yX6_valueAt ∈ lw_tbl := lm_t2 _ (List.mem_of_getElem? (i := 159) rfl)
theorem ml_X6_99 : Cond.methodLink RX6 99 yX6_refresh ∈ lw_tbl := lm_t2 _ (List.mem_of_getElem? (i := 163) rfl)
theorem ml_X6_54 : Cond.methodLink RX6 54 yX1_all ∈ lw_tbl := lm_t2 _ (List.mem_of_getElem? (i := 167) rfl)
theorem ml_X6_58 : Cond.methodLink RX6 58 yX6_rankFromSubsets ∈ lw_tbl := lm_t2 _ (List.mem_of_getElem? (i := 171) rfl)
theorem ml_X6_71 : Cond.methodLink RX6 71 yJ6_bitCount_0f7a4 ∈ lw_tbl := lm_t2 _ (List.mem_of_getElem? (i := 175) rfl)
theorem cn_J6_265 : Cond.constant RJ6 265 (1431655765) ∈ lw_tbl := lm_t2 _ (List.mem_of_getElem? (i := 178) rfl)
theorem cn_J6_266 : Cond.constant RJ6 266 (858993459) ∈ lw_tbl := lm_t2 _ (List.mem_of_getElem? (i := 179) rfl)
theorem cn_J6_267 : Cond.constant RJ6 267 (252645135) ∈ lw_tbl := lm_t2 _ (List.mem_of_getElem? (i := 180) rfl)
theorem ml_X6_86 : Cond.methodLink RX6 86 yJ9_max_7cf53 ∈ lw_tbl := lm_t2 _ (List.mem_of_getElem? (i := 181) rfl)
theorem ml_X6_92 : Cond.methodLink RX6 92 yX5_load ∈ lw_tbl := lm_t2 _ (List.mem_of_getElem? (i := 182) rfl)
theorem ml_X5_33 : Cond.methodLink RX5 33 yX1_at ∈ lw_tbl := lm_t2 _ (List.mem_of_getElem? (i := 186) rfl)
theorem ml_X6_96 : Cond.methodLink RX6 96 yX5_reduce ∈ lw_tbl := lm_t2 _ (List.mem_of_getElem? (i := 187) rfl)
theorem ml_X5_37 : Cond.methodLink RX5 37 yX5_takeRemainders ∈ lw_tbl := lm_t2 _ (List.mem_of_getElem? (i := 191) rfl)
theorem ml_X5_41 : Cond.methodLink RX5 41 yX5_bringUp ∈ lw_tbl := lm_t2 _ (List.mem_of_getElem? (i := 195) rfl)
theorem ml_X5_45 : Cond.methodLink RX5 45 yX5_strike ∈ lw_tbl := lm_t2 _ (List.mem_of_getElem? (i := 199) rfl)
theorem ml_X6_62 : Cond.methodLink RX6 62 yX6_closureFromRanks ∈ lw_tbl := lm_t2 _ (List.mem_of_getElem? (i := 203) rfl)
theorem ml_X6_76 : Cond.methodLink RX6 76 yX6_isCircuit ∈ lw_tbl := lm_t2 _ (List.mem_of_getElem? (i := 207) rfl)
theorem ml_X6_80 : Cond.methodLink RX6 80 yX4_append ∈ lw_tbl := lm_t2 _ (List.mem_of_getElem? (i := 211) rfl)
theorem ml_X6_123 : Cond.methodLink RX6 123 yX6_coefficientFromRanks ∈ lw_tbl := lm_t2 _ (List.mem_of_getElem? (i := 215) rfl)
theorem ml_X6_129 : Cond.methodLink RX6 129 yJ9_abs_0f7a4 ∈ lw_tbl := lm_t2 _ (List.mem_of_getElem? (i := 219) rfl)
theorem ml_L_27 : Cond.methodLink RL 27 yX10_drops ∈ lw_tbl := lm_t2 _ (List.mem_of_getElem? (i := 222) rfl)
theorem ml_X10_97 : Cond.methodLink RX10 97 yX1_remove ∈ lw_tbl := lm_t2 _ (List.mem_of_getElem? (i := 226) rfl)
theorem ml_L_31 : Cond.methodLink RL 31 yX10_swaps ∈ lw_tbl := lm_t2 _ (List.mem_of_getElem? (i := 230) rfl)
theorem ml_X10_100 : Cond.methodLink RX10 100 yX1_exchange ∈ lw_tbl := lm_t2 _ (List.mem_of_getElem? (i := 234) rfl)
theorem ml_X10_104 : Cond.methodLink RX10 104 yX1_all ∈ lw_tbl := lm_t2 _ (List.mem_of_getElem? (i := 238) rfl)
theorem ml_X10_107 : Cond.methodLink RX10 107 yX6_rankOf ∈ lw_tbl := lm_t2 _ (List.mem_of_getElem? (i := 239) rfl)
theorem ml_L_36 : Cond.methodLink RL 36 yX10_makes ∈ lw_tbl := lm_t3 _ (List.mem_of_getElem? (i := 3) rfl)
theorem ml_X10_110 : Cond.methodLink RX10 110 yX1_fill ∈ lw_tbl := lm_t3 _ (List.mem_of_getElem? (i := 7) rfl)
theorem ml_X1_54 : Cond.methodLink RX1 54 yX1_putPair ∈ lw_tbl := lm_t3 _ (List.mem_of_getElem? (i := 11) rfl)
theorem ml_X1_58 : Cond.methodLink RX1 58 yX1_putPairs ∈ lw_tbl := lm_t3 _ (List.mem_of_getElem? (i := 15) rfl)
theorem ml_L_40 : Cond.methodLink RL 40 yX10_of ∈ lw_tbl := lm_t3 _ (List.mem_of_getElem? (i := 19) rfl)
theorem ml_X10_113 : Cond.methodLink RX10 113 yX1_has ∈ lw_tbl := lm_t3 _ (List.mem_of_getElem? (i := 23) rfl)
theorem ml_X10_123 : Cond.methodLink RX10 123 yX1_at ∈ lw_tbl := lm_t3 _ (List.mem_of_getElem? (i := 24) rfl)
theorem ml_L_44 : Cond.methodLink RL 44 yX10_rank ∈ lw_tbl := lm_t3 _ (List.mem_of_getElem? (i := 25) rfl)
theorem ml_X10_126 : Cond.methodLink RX10 126 yX1_hasAll ∈ lw_tbl := lm_t3 _ (List.mem_of_getElem? (i := 29) rfl)
theorem ml_X1_22 : Cond.methodLink RX1 22 yX1_all ∈ lw_tbl := lm_t3 _ (List.mem_of_getElem? (i := 33) rfl)
theorem ml_L_48 : Cond.methodLink RL 48 yX10_closed ∈ lw_tbl := lm_t3 _ (List.mem_of_getElem? (i := 34) rfl)
theorem ml_X10_129 : Cond.methodLink RX10 129 yX6_closureOf ∈ lw_tbl := lm_t3 _ (List.mem_of_getElem? (i := 38) rfl)
theorem ml_L_52 : Cond.methodLink RL 52 yX10_flats ∈ lw_tbl := lm_t3 _ (List.mem_of_getElem? (i := 42) rfl)
theorem ml_X10_132 : Cond.methodLink RX10 132 yX6_flatsOfRank ∈ lw_tbl := lm_t3 _ (List.mem_of_getElem? (i := 46) rfl)
theorem ml_X10_136 : Cond.methodLink RX10 136 yX4_answer ∈ lw_tbl := lm_t3 _ (List.mem_of_getElem? (i := 50) rfl)
theorem ml_L_56 : Cond.methodLink RL 56 yX10_sign ∈ lw_tbl := lm_t3 _ (List.mem_of_getElem? (i := 54) rfl)
theorem ml_X10_141 : Cond.methodLink RX10 141 yX6_isFlat ∈ lw_tbl := lm_t3 _ (List.mem_of_getElem? (i := 58) rfl)
theorem ml_X10_144 : Cond.methodLink RX10 144 yX6_moebius ∈ lw_tbl := lm_t3 _ (List.mem_of_getElem? (i := 62) rfl)
theorem ml_L_60 : Cond.methodLink RL 60 yX10_rings ∈ lw_tbl := lm_t3 _ (List.mem_of_getElem? (i := 66) rfl)
theorem ml_X10_147 : Cond.methodLink RX10 147 yX6_circuits ∈ lw_tbl := lm_t3 _ (List.mem_of_getElem? (i := 70) rfl)
theorem ml_L_64 : Cond.methodLink RL 64 yX10_factor ∈ lw_tbl := lm_t3 _ (List.mem_of_getElem? (i := 74) rfl)
theorem ml_X10_158 : Cond.methodLink RX10 158 yX6_factorsOf ∈ lw_tbl := lm_t3 _ (List.mem_of_getElem? (i := 78) rfl)
theorem ml_X6_102 : Cond.methodLink RX6 102 yX5_trace ∈ lw_tbl := lm_t3 _ (List.mem_of_getElem? (i := 82) rfl)
theorem ml_X6_105 : Cond.methodLink RX6 105 yX5_traceInLast ∈ lw_tbl := lm_t3 _ (List.mem_of_getElem? (i := 86) rfl)
theorem ml_X6_109 : Cond.methodLink RX6 109 yX6_commonDivisor ∈ lw_tbl := lm_t3 _ (List.mem_of_getElem? (i := 90) rfl)
theorem ml_X6_119 : Cond.methodLink RX6 119 yJ9_abs_067f4 ∈ lw_tbl := lm_t3 _ (List.mem_of_getElem? (i := 93) rfl)
theorem ml_X6_113 : Cond.methodLink RX6 113 yJ7_fill_53178 ∈ lw_tbl := lm_t3 _ (List.mem_of_getElem? (i := 96) rfl)
theorem ml_L_68 : Cond.methodLink RL 68 yX10_polynomial ∈ lw_tbl := lm_t3 _ (List.mem_of_getElem? (i := 99) rfl)
theorem ml_X10_162 : Cond.methodLink RX10 162 yX6_coefficient ∈ lw_tbl := lm_t3 _ (List.mem_of_getElem? (i := 103) rfl)
theorem ml_L_72 : Cond.methodLink RL 72 yX10_value ∈ lw_tbl := lm_t3 _ (List.mem_of_getElem? (i := 107) rfl)
theorem ml_X10_165 : Cond.methodLink RX10 165 yX6_valueAt ∈ lw_tbl := lm_t3 _ (List.mem_of_getElem? (i := 111) rfl)
theorem cn_X10_168 : Cond.constant RX10 168 (100000) ∈ lw_tbl := lm_t3 _ (List.mem_of_getElem? (i := 112) rfl)
theorem ml_L_76 : Cond.methodLink RL 76 yX10_within ∈ lw_tbl := lm_t3 _ (List.mem_of_getElem? (i := 113) rfl)
theorem ml_L_80 : Cond.methodLink RL 80 yX10_parts ∈ lw_tbl := lm_t3 _ (List.mem_of_getElem? (i := 117) rfl)
theorem ml_X10_169 : Cond.methodLink RX10 169 yX8_listed ∈ lw_tbl := lm_t3 _ (List.mem_of_getElem? (i := 121) rfl)
theorem ml_X8_86 : Cond.methodLink RX8 86 yX8_refresh ∈ lw_tbl := lm_t3 _ (List.mem_of_getElem? (i := 125) rfl)
theorem ml_X8_45 : Cond.methodLink RX8 45 yX1_all ∈ lw_tbl := lm_t3 _ (List.mem_of_getElem? (i := 129) rfl)
theorem ml_X8_49 : Cond.methodLink RX8 49 yX6_refresh ∈ lw_tbl := lm_t3 _ (List.mem_of_getElem? (i := 130) rfl)
theorem ml_X8_63 : Cond.methodLink RX8 63 yX8_positivePart ∈ lw_tbl := lm_t3 _ (List.mem_of_getElem? (i := 131) rfl)
theorem ml_X8_74 : Cond.methodLink RX8 74 yX6_factorsOf ∈ lw_tbl := lm_t3 _ (List.mem_of_getElem? (i := 135) rfl)
theorem ml_X8_67 : Cond.methodLink RX8 67 yX8_strike ∈ lw_tbl := lm_t3 _ (List.mem_of_getElem? (i := 136) rfl)
theorem ml_X8_81 : Cond.methodLink RX8 81 yJ6_bitCount_0f7a4 ∈ lw_tbl := lm_t3 _ (List.mem_of_getElem? (i := 140) rfl)
theorem ml_X8_71 : Cond.methodLink RX8 71 yX4_append ∈ lw_tbl := lm_t3 _ (List.mem_of_getElem? (i := 141) rfl)
theorem ml_L_84 : Cond.methodLink RL 84 yX10_walls ∈ lw_tbl := lm_t3 _ (List.mem_of_getElem? (i := 142) rfl)
theorem ml_X10_172 : Cond.methodLink RX10 172 yX8_isRegion ∈ lw_tbl := lm_t3 _ (List.mem_of_getElem? (i := 146) rfl)
theorem ml_X10_175 : Cond.methodLink RX10 175 yX8_wallsOf ∈ lw_tbl := lm_t3 _ (List.mem_of_getElem? (i := 150) rfl)
theorem ml_L_88 : Cond.methodLink RL 88 yX10_way ∈ lw_tbl := lm_t3 _ (List.mem_of_getElem? (i := 154) rfl)
theorem ml_X10_178 : Cond.methodLink RX10 178 yJ6_bitCount_0f7a4 ∈ lw_tbl := lm_t3 _ (List.mem_of_getElem? (i := 158) rfl)
theorem ml_X10_183 : Cond.methodLink RX10 183 yX8_countGalleries ∈ lw_tbl := lm_t3 _ (List.mem_of_getElem? (i := 159) rfl)
theorem ml_X8_87 : Cond.methodLink RX8 87 yX8_sumOfEarlier ∈ lw_tbl := lm_t3 _ (List.mem_of_getElem? (i := 163) rfl)
theorem ml_L_93 : Cond.methodLink RL 93 yX10_chain ∈ lw_tbl := lm_t3 _ (List.mem_of_getElem? (i := 167) rfl)
theorem ml_X10_186 : Cond.methodLink RX10 186 yX7_hasChain ∈ lw_tbl := lm_t3 _ (List.mem_of_getElem? (i := 171) rfl)
theorem ml_X7_68 : Cond.methodLink RX7 68 yX7_refresh ∈ lw_tbl := lm_t3 _ (List.mem_of_getElem? (i := 175) rfl)
theorem ml_X7_39 : Cond.methodLink RX7 39 yX6_refresh ∈ lw_tbl := lm_t3 _ (List.mem_of_getElem? (i := 179) rfl)
theorem ml_X7_44 : Cond.methodLink RX7 44 yX1_all ∈ lw_tbl := lm_t3 _ (List.mem_of_getElem? (i := 180) rfl)
theorem ml_X7_51 : Cond.methodLink RX7 51 yX7_isModular ∈ lw_tbl := lm_t3 _ (List.mem_of_getElem? (i := 181) rfl)
theorem ml_X7_55 : Cond.methodLink RX7 55 yX7_nextAbove ∈ lw_tbl := lm_t3 _ (List.mem_of_getElem? (i := 185) rfl)
theorem ml_X7_62 : Cond.methodLink RX7 62 yJ9_max_7cf53 ∈ lw_tbl := lm_t3 _ (List.mem_of_getElem? (i := 189) rfl)
theorem ml_X10_190 : Cond.methodLink RX10 190 yX7_linkAt ∈ lw_tbl := lm_t3 _ (List.mem_of_getElem? (i := 190) rfl)
theorem ml_X10_193 : Cond.methodLink RX10 193 yX7_stepAt ∈ lw_tbl := lm_t3 _ (List.mem_of_getElem? (i := 194) rfl)
theorem ml_X7_69 : Cond.methodLink RX7 69 yJ6_bitCount_0f7a4 ∈ lw_tbl := lm_t3 _ (List.mem_of_getElem? (i := 198) rfl)
theorem ml_L_97 : Cond.methodLink RL 97 yX10_even ∈ lw_tbl := lm_t3 _ (List.mem_of_getElem? (i := 199) rfl)
theorem ml_X10_196 : Cond.methodLink RX10 196 yX7_countOfRank ∈ lw_tbl := lm_t3 _ (List.mem_of_getElem? (i := 203) rfl)
theorem ml_L_101 : Cond.methodLink RL 101 yX10_places ∈ lw_tbl := lm_t3 _ (List.mem_of_getElem? (i := 207) rfl)
theorem ml_X10_199 : Cond.methodLink RX10 199 yX2_countFreePoints ∈ lw_tbl := lm_t3 _ (List.mem_of_getElem? (i := 211) rfl)
theorem ml_X2_39 : Cond.methodLink RX2 39 yX2_setPoint ∈ lw_tbl := lm_t3 _ (List.mem_of_getElem? (i := 215) rfl)
theorem ml_X2_43 : Cond.methodLink RX2 43 yX2_isFree ∈ lw_tbl := lm_t3 _ (List.mem_of_getElem? (i := 219) rfl)
theorem ml_X2_47 : Cond.methodLink RX2 47 yX1_at ∈ lw_tbl := lm_t3 _ (List.mem_of_getElem? (i := 223) rfl)
theorem ml_X10_202 : Cond.methodLink RX10 202 yX2_isGood ∈ lw_tbl := lm_t3 _ (List.mem_of_getElem? (i := 224) rfl)
theorem ml_X2_51 : Cond.methodLink RX2 51 yX1_all ∈ lw_tbl := lm_t3 _ (List.mem_of_getElem? (i := 228) rfl)
theorem ml_X2_55 : Cond.methodLink RX2 55 yX6_rankOf ∈ lw_tbl := lm_t3 _ (List.mem_of_getElem? (i := 229) rfl)
theorem ml_X2_61 : Cond.methodLink RX2 61 yJ6_bitCount_0f7a4 ∈ lw_tbl := lm_t3 _ (List.mem_of_getElem? (i := 230) rfl)
theorem ml_X2_66 : Cond.methodLink RX2 66 yX6_isIndependent ∈ lw_tbl := lm_t3 _ (List.mem_of_getElem? (i := 231) rfl)
theorem ml_X2_69 : Cond.methodLink RX2 69 yX5_load ∈ lw_tbl := lm_t3 _ (List.mem_of_getElem? (i := 235) rfl)
theorem ml_X2_73 : Cond.methodLink RX2 73 yX5_reduce ∈ lw_tbl := lm_t3 _ (List.mem_of_getElem? (i := 236) rfl)
theorem ml_L_105 : Cond.methodLink RL 105 yX10_base ∈ lw_tbl := lm_t3 _ (List.mem_of_getElem? (i := 237) rfl)
theorem ml_X10_205 : Cond.methodLink RX10 205 yX0_baseSetsOfSize ∈ lw_tbl := lm_t4 _ (List.mem_of_getElem? (i := 1) rfl)
theorem ml_X0_71 : Cond.methodLink RX0 71 yX0_refresh ∈ lw_tbl := lm_t4 _ (List.mem_of_getElem? (i := 5) rfl)
theorem ml_X0_44 : Cond.methodLink RX0 44 yJ7_fill_53178 ∈ lw_tbl := lm_t4 _ (List.mem_of_getElem? (i := 9) rfl)
theorem ml_X0_50 : Cond.methodLink RX0 50 yX6_refresh ∈ lw_tbl := lm_t4 _ (List.mem_of_getElem? (i := 10) rfl)
theorem ml_X0_64 : Cond.methodLink RX0 64 yX1_all ∈ lw_tbl := lm_t4 _ (List.mem_of_getElem? (i := 11) rfl)
theorem ml_X0_72 : Cond.methodLink RX0 72 yJ6_bitCount_0f7a4 ∈ lw_tbl := lm_t4 _ (List.mem_of_getElem? (i := 12) rfl)
theorem ml_X0_78 : Cond.methodLink RX0 78 yX6_isIndependent ∈ lw_tbl := lm_t4 _ (List.mem_of_getElem? (i := 13) rfl)
theorem ml_X0_82 : Cond.methodLink RX0 82 yX4_append ∈ lw_tbl := lm_t4 _ (List.mem_of_getElem? (i := 14) rfl)
theorem ml_L_109 : Cond.methodLink RL 109 yX10_form ∈ lw_tbl := lm_t4 _ (List.mem_of_getElem? (i := 15) rfl)
theorem ml_X10_208 : Cond.methodLink RX10 208 yX0_partOf ∈ lw_tbl := lm_t4 _ (List.mem_of_getElem? (i := 19) rfl)
theorem ml_X0_85 : Cond.methodLink RX0 85 yX0_replace ∈ lw_tbl := lm_t4 _ (List.mem_of_getElem? (i := 23) rfl)
theorem ml_L_113 : Cond.methodLink RL 113 yX10_type ∈ lw_tbl := lm_t4 _ (List.mem_of_getElem? (i := 27) rfl)
theorem ml_X10_211 : Cond.methodLink RX10 211 yX9_append ∈ lw_tbl := lm_t4 _ (List.mem_of_getElem? (i := 31) rfl)
theorem ml_L_117 : Cond.methodLink RL 117 yX10_clear ∈ lw_tbl := lm_t4 _ (List.mem_of_getElem? (i := 35) rfl)
theorem ml_L_122 : Cond.methodLink RL 122 yX10_reads ∈ lw_tbl := lm_t4 _ (List.mem_of_getElem? (i := 39) rfl)
theorem ml_X10_217 : Cond.methodLink RX10 217 yX9_parse ∈ lw_tbl := lm_t4 _ (List.mem_of_getElem? (i := 43) rfl)
theorem ml_X9_32 : Cond.methodLink RX9 32 yX9_skipSpaces ∈ lw_tbl := lm_t4 _ (List.mem_of_getElem? (i := 47) rfl)
theorem ml_X9_50 : Cond.methodLink RX9 50 yX9_isBetween ∈ lw_tbl := lm_t4 _ (List.mem_of_getElem? (i := 51) rfl)
theorem ml_X9_35 : Cond.methodLink RX9 35 yX9_readCommand ∈ lw_tbl := lm_t4 _ (List.mem_of_getElem? (i := 55) rfl)
theorem ml_X9_43 : Cond.methodLink RX9 43 yX9_countNumbers ∈ lw_tbl := lm_t4 _ (List.mem_of_getElem? (i := 59) rfl)
theorem ml_X9_46 : Cond.methodLink RX9 46 yX9_readNumber ∈ lw_tbl := lm_t4 _ (List.mem_of_getElem? (i := 62) rfl)
theorem ml_X9_39 : Cond.methodLink RX9 39 yX9_number ∈ lw_tbl := lm_t4 _ (List.mem_of_getElem? (i := 66) rfl)
theorem ml_X10_223 : Cond.methodLink RX10 223 yX10_executed ∈ lw_tbl := lm_t4 _ (List.mem_of_getElem? (i := 70) rfl)
theorem ml_X10_275 : Cond.methodLink RX10 275 yX9_number ∈ lw_tbl := lm_t4 _ (List.mem_of_getElem? (i := 74) rfl)
theorem ml_X10_278 : Cond.methodLink RX10 278 yX9_verb ∈ lw_tbl := lm_t4 _ (List.mem_of_getElem? (i := 75) rfl)
theorem ml_L_126 : Cond.methodLink RL 126 yX10_why ∈ lw_tbl := lm_t4 _ (List.mem_of_getElem? (i := 79) rfl)
theorem ml_L_130 : Cond.methodLink RL 130 yX10_back ∈ lw_tbl := lm_t4 _ (List.mem_of_getElem? (i := 83) rfl)
theorem ml_X10_232 : Cond.methodLink RX10 232 yX3_restore ∈ lw_tbl := lm_t4 _ (List.mem_of_getElem? (i := 87) rfl)
theorem ml_L_134 : Cond.methodLink RL 134 yX10_told ∈ lw_tbl := lm_t4 _ (List.mem_of_getElem? (i := 91) rfl)
theorem ml_L_138 : Cond.methodLink RL 138 yX10_digest ∈ lw_tbl := lm_t4 _ (List.mem_of_getElem? (i := 95) rfl)
theorem cn_X10_249 : Cond.constantLong RX10 249 (2351) ∈ lw_tbl := lm_t4 _ (List.mem_of_getElem? (i := 99) rfl)
theorem ml_X10_251 : Cond.methodLink RX10 251 yX10_told ∈ lw_tbl := lm_t4 _ (List.mem_of_getElem? (i := 100) rfl)
theorem ml_X10_254 : Cond.methodLink RX10 254 yX10_mixed ∈ lw_tbl := lm_t4 _ (List.mem_of_getElem? (i := 101) rfl)
theorem cn_X10_273 : Cond.constantLong RX10 273 (31) ∈ lw_tbl := lm_t4 _ (List.mem_of_getElem? (i := 104) rfl)
theorem ml_X10_258 : Cond.methodLink RX10 258 yX10_why ∈ lw_tbl := lm_t4 _ (List.mem_of_getElem? (i := 105) rfl)
theorem ml_X10_261 : Cond.methodLink RX10 261 yX10_of ∈ lw_tbl := lm_t4 _ (List.mem_of_getElem? (i := 106) rfl)
theorem ml_X10_264 : Cond.methodLink RX10 264 yX10_flats ∈ lw_tbl := lm_t4 _ (List.mem_of_getElem? (i := 107) rfl)
theorem ml_X10_267 : Cond.methodLink RX10 267 yX10_polynomial ∈ lw_tbl := lm_t4 _ (List.mem_of_getElem? (i := 108) rfl)
theorem ml_X10_270 : Cond.methodLink RX10 270 yX10_rings ∈ lw_tbl := lm_t4 _ (List.mem_of_getElem? (i := 109) rfl)
theorem ml_L_12 : Cond.methodLink RL 12 yX11_init ∈ lw_tbl := lm_t4 _ (List.mem_of_getElem? (i := 112) rfl)
theorem fl_X11_7 : am_FL RX11 7 11 0 := ⟨RX11, TX11, 33, rfl, by decide, in_X11, Or.inl (lm_t4 _ (List.mem_of_getElem? (i := 116) rfl))⟩
theorem fl_X11_13 : am_FL RX11 13 11 1 := ⟨RX11, TX11, 33, rfl, by decide, in_X11, Or.inl (lm_t4 _ (List.mem_of_getElem? (i := 117) rfl))⟩
theorem fl_X11_16 : am_FL RX11 16 11 2 := ⟨RX11, TX11, 33, rfl, by decide, in_X11, Or.inl (lm_t4 _ (List.mem_of_getElem? (i := 118) rfl))⟩
theorem fl_X11_82 : am_FL RX11 82 11 3 := ⟨RX11, TX11, 33, rfl, by decide, in_X11, Or.inl (lm_t4 _ (List.mem_of_getElem? (i := 119) rfl))⟩
theorem fp_X11_82 : am_FP RX11 82 11 3 .int := ⟨RX11, TX11, 33, tyX11, rfl, by decide, in_X11, Or.inl (lm_t4 _ (List.mem_of_getElem? (i := 119) rfl)), tyX11_ok, nmX11, rfl, rfl⟩
theorem fl_X11_19 : am_FL RX11 19 11 4 := ⟨RX11, TX11, 33, rfl, by decide, in_X11, Or.inl (lm_t4 _ (List.mem_of_getElem? (i := 120) rfl))⟩
theorem fl_X11_22 : am_FL RX11 22 11 5 := ⟨RX11, TX11, 33, rfl, by decide, in_X11, Or.inl (lm_t4 _ (List.mem_of_getElem? (i := 121) rfl))⟩
theorem fl_X11_246 : am_FL RX11 246 11 6 := ⟨RX11, TX11, 33, rfl, by decide, in_X11, Or.inl (lm_t4 _ (List.mem_of_getElem? (i := 122) rfl))⟩
theorem fp_X11_246 : am_FP RX11 246 11 6 .int := ⟨RX11, TX11, 33, tyX11, rfl, by decide, in_X11, Or.inl (lm_t4 _ (List.mem_of_getElem? (i := 122) rfl)), tyX11_ok, nmX11, rfl, rfl⟩
theorem fl_X11_284 : am_FL RX11 284 11 7 := ⟨RX11, TX11, 33, rfl, by decide, in_X11, Or.inl (lm_t4 _ (List.mem_of_getElem? (i := 123) rfl))⟩
theorem fp_X11_284 : am_FP RX11 284 11 7 .int := ⟨RX11, TX11, 33, tyX11, rfl, by decide, in_X11, Or.inl (lm_t4 _ (List.mem_of_getElem? (i := 123) rfl)), tyX11_ok, nmX11, rfl, rfl⟩
theorem fl_X11_25 : am_FL RX11 25 11 8 := ⟨RX11, TX11, 33, rfl, by decide, in_X11, Or.inl (lm_t4 _ (List.mem_of_getElem? (i := 124) rfl))⟩
theorem fp_X11_25 : am_FP RX11 25 11 8 .int := ⟨RX11, TX11, 33, tyX11, rfl, by decide, in_X11, Or.inl (lm_t4 _ (List.mem_of_getElem? (i := 124) rfl)), tyX11_ok, nmX11, rfl, rfl⟩
theorem fl_X11_85 : am_FL RX11 85 11 9 := ⟨RX11, TX11, 33, rfl, by decide, in_X11, Or.inl (lm_t4 _ (List.mem_of_getElem? (i := 125) rfl))⟩
theorem fp_X11_85 : am_FP RX11 85 11 9 .boolean := ⟨RX11, TX11, 33, tyX11, rfl, by decide, in_X11, Or.inl (lm_t4 _ (List.mem_of_getElem? (i := 125) rfl)), tyX11_ok, nmX11, rfl, rfl⟩
theorem fl_X11_29 : am_FL RX11 29 11 10 := ⟨RX11, TX11, 33, rfl, by decide, in_X11, Or.inl (lm_t4 _ (List.mem_of_getElem? (i := 126) rfl))⟩
theorem fl_X11_32 : am_FL RX11 32 11 11 := ⟨RX11, TX11, 33, rfl, by decide, in_X11, Or.inl (lm_t4 _ (List.mem_of_getElem? (i := 127) rfl))⟩
theorem fl_X11_120 : am_FL RX11 120 11 12 := ⟨RX11, TX11, 33, rfl, by decide, in_X11, Or.inl (lm_t4 _ (List.mem_of_getElem? (i := 128) rfl))⟩
theorem fp_X11_120 : am_FP RX11 120 11 12 .int := ⟨RX11, TX11, 33, tyX11, rfl, by decide, in_X11, Or.inl (lm_t4 _ (List.mem_of_getElem? (i := 128) rfl)), tyX11_ok, nmX11, rfl, rfl⟩
theorem fl_X11_36 : am_FL RX11 36 11 13 := ⟨RX11, TX11, 33, rfl, by decide, in_X11, Or.inl (lm_t4 _ (List.mem_of_getElem? (i := 129) rfl))⟩
theorem fl_X11_39 : am_FL RX11 39 11 14 := ⟨RX11, TX11, 33, rfl, by decide, in_X11, Or.inl (lm_t4 _ (List.mem_of_getElem? (i := 130) rfl))⟩
theorem fl_X11_42 : am_FL RX11 42 11 15 := ⟨RX11, TX11, 33, rfl, by decide, in_X11, Or.inl (lm_t4 _ (List.mem_of_getElem? (i := 131) rfl))⟩
theorem fl_X11_45 : am_FL RX11 45 11 16 := ⟨RX11, TX11, 33, rfl, by decide, in_X11, Or.inl (lm_t4 _ (List.mem_of_getElem? (i := 132) rfl))⟩
theorem fl_X11_48 : am_FL RX11 48 11 17 := ⟨RX11, TX11, 33, rfl, by decide, in_X11, Or.inl (lm_t4 _ (List.mem_of_getElem? (i := 133) rfl))⟩
theorem fl_X11_136 : am_FL RX11 136 11 18 := ⟨RX11, TX11, 33, rfl, by decide, in_X11, Or.inl (lm_t4 _ (List.mem_of_getElem? (i := 134) rfl))⟩
theorem fp_X11_136 : am_FP RX11 136 11 18 .int := ⟨RX11, TX11, 33, tyX11, rfl, by decide, in_X11, Or.inl (lm_t4 _ (List.mem_of_getElem? (i := 134) rfl)), tyX11_ok, nmX11, rfl, rfl⟩
theorem fl_X11_51 : am_FL RX11 51 11 19 := ⟨RX11, TX11, 33, rfl, by decide, in_X11, Or.inl (lm_t4 _ (List.mem_of_getElem? (i := 135) rfl))⟩
theorem fl_X11_54 : am_FL RX11 54 11 20 := ⟨RX11, TX11, 33, rfl, by decide, in_X11, Or.inl (lm_t4 _ (List.mem_of_getElem? (i := 136) rfl))⟩
theorem fl_X11_57 : am_FL RX11 57 11 21 := ⟨RX11, TX11, 33, rfl, by decide, in_X11, Or.inl (lm_t4 _ (List.mem_of_getElem? (i := 137) rfl))⟩
theorem fl_X11_60 : am_FL RX11 60 11 22 := ⟨RX11, TX11, 33, rfl, by decide, in_X11, Or.inl (lm_t4 _ (List.mem_of_getElem? (i := 138) rfl))⟩
theorem fl_X11_63 : am_FL RX11 63 11 23 := ⟨RX11, TX11, 33, rfl, by decide, in_X11, Or.inl (lm_t4 _ (List.mem_of_getElem? (i := 139) rfl))⟩
theorem fl_X11_66 : am_FL RX11 66 11 24 := ⟨RX11, TX11, 33, rfl, by decide, in_X11, Or.inl (lm_t4 _ (List.mem_of_getElem? (i := 140) rfl))⟩
theorem fl_X11_70 : am_FL RX11 70 11 25 := ⟨RX11, TX11, 33, rfl, by decide, in_X11, Or.inl (lm_t4 _ (List.mem_of_getElem? (i := 141) rfl))⟩
theorem fl_X11_73 : am_FL RX11 73 11 26 := ⟨RX11, TX11, 33, rfl, by decide, in_X11, Or.inl (lm_t4 _ (List.mem_of_getElem? (i := 142) rfl))⟩
theorem fl_X11_249 : am_FL RX11 249 11 27 := ⟨RX11, TX11, 33, rfl, by decide, in_X11, Or.inl (lm_t4 _ (List.mem_of_getElem? (i := 143) rfl))⟩
theorem fp_X11_249 : am_FP RX11 249 11 27 .int := ⟨RX11, TX11, 33, tyX11, rfl, by decide, in_X11, Or.inl (lm_t4 _ (List.mem_of_getElem? (i := 143) rfl)), tyX11_ok, nmX11, rfl, rfl⟩
theorem fl_X11_252 : am_FL RX11 252 11 28 := ⟨RX11, TX11, 33, rfl, by decide, in_X11, Or.inl (lm_t4 _ (List.mem_of_getElem? (i := 144) rfl))⟩
theorem fp_X11_252 : am_FP RX11 252 11 28 .int := ⟨RX11, TX11, 33, tyX11, rfl, by decide, in_X11, Or.inl (lm_t4 _ (List.mem_of_getElem? (i := 144) rfl)), tyX11_ok, nmX11, rfl, rfl⟩
theorem fl_X11_268 : am_FL RX11 268 11 29 := ⟨RX11, TX11, 33, rfl, by decide, in_X11, Or.inl (lm_t4 _ (List.mem_of_getElem? (i := 145) rfl))⟩
theorem fp_X11_268 : am_FP RX11 268 11 29 .int := ⟨RX11, TX11, 33, tyX11, rfl, by decide, in_X11, Or.inl (lm_t4 _ (List.mem_of_getElem? (i := 145) rfl)), tyX11_ok, nmX11, rfl, rfl⟩
theorem fl_X11_76 : am_FL RX11 76 11 30 := ⟨RX11, TX11, 33, rfl, by decide, in_X11, Or.inl (lm_t4 _ (List.mem_of_getElem? (i := 146) rfl))⟩
theorem fl_X11_79 : am_FL RX11 79 11 31 := ⟨RX11, TX11, 33, rfl, by decide, in_X11, Or.inl (lm_t4 _ (List.mem_of_getElem? (i := 147) rfl))⟩
theorem fl_X11_295 : am_FL RX11 295 11 32 := ⟨RX11, TX11, 33, rfl, by decide, in_X11, Or.inl (lm_t4 _ (List.mem_of_getElem? (i := 148) rfl))⟩
theorem fp_X11_295 : am_FP RX11 295 11 32 .long := ⟨RX11, TX11, 33, tyX11, rfl, by decide, in_X11, Or.inl (lm_t4 _ (List.mem_of_getElem? (i := 148) rfl)), tyX11_ok, nmX11, rfl, rfl⟩
theorem ml_L_133 : Cond.methodLink RL 133 yX11_back ∈ lw_tbl := lm_t4 _ (List.mem_of_getElem? (i := 216) rfl)
theorem ml_X11_89 : Cond.methodLink RX11 89 yX11_refuses ∈ lw_tbl := lm_t4 _ (List.mem_of_getElem? (i := 220) rfl)
theorem ml_L_17 : Cond.methodLink RL 17 yX11_space ∈ lw_tbl := lm_t4 _ (List.mem_of_getElem? (i := 224) rfl)
theorem ml_X11_161 : Cond.methodLink RX11 161 yX11_hold ∈ lw_tbl := lm_t4 _ (List.mem_of_getElem? (i := 228) rfl)
theorem ml_X11_164 : Cond.methodLink RX11 164 yX11_doSpace ∈ lw_tbl := lm_t4 _ (List.mem_of_getElem? (i := 232) rfl)
theorem ml_X11_113 : Cond.methodLink RX11 113 yX11_in ∈ lw_tbl := lm_t4 _ (List.mem_of_getElem? (i := 236) rfl)
theorem ml_X11_167 : Cond.methodLink RX11 167 yX11_ends ∈ lw_tbl := lm_t4 _ (List.mem_of_getElem? (i := 239) rfl)
theorem ml_X11_158 : Cond.methodLink RX11 158 yX11_push ∈ lw_tbl := lm_t5 _ (List.mem_of_getElem? (i := 3) rfl)
theorem ml_L_22 : Cond.methodLink RL 22 yX11_plane ∈ lw_tbl := lm_t5 _ (List.mem_of_getElem? (i := 7) rfl)
theorem ml_X11_170 : Cond.methodLink RX11 170 yX11_doPlane ∈ lw_tbl := lm_t5 _ (List.mem_of_getElem? (i := 11) rfl)
theorem ml_X11_145 : Cond.methodLink RX11 145 yX11_isThere ∈ lw_tbl := lm_t5 _ (List.mem_of_getElem? (i := 15) rfl)
theorem ml_X11_148 : Cond.methodLink RX11 148 yX11_addsTold ∈ lw_tbl := lm_t5 _ (List.mem_of_getElem? (i := 19) rfl)
theorem ml_L_26 : Cond.methodLink RL 26 yX11_turns ∈ lw_tbl := lm_t5 _ (List.mem_of_getElem? (i := 23) rfl)
theorem ml_X11_174 : Cond.methodLink RX11 174 yX11_doTurns ∈ lw_tbl := lm_t5 _ (List.mem_of_getElem? (i := 27) rfl)
theorem ml_X11_151 : Cond.methodLink RX11 151 yX11_isPlane ∈ lw_tbl := lm_t5 _ (List.mem_of_getElem? (i := 31) rfl)
theorem ml_X11_177 : Cond.methodLink RX11 177 yX11_partMany ∈ lw_tbl := lm_t5 _ (List.mem_of_getElem? (i := 35) rfl)
theorem ml_X11_109 : Cond.methodLink RX11 109 yX11_all ∈ lw_tbl := lm_t5 _ (List.mem_of_getElem? (i := 39) rfl)
theorem ml_X11_209 : Cond.methodLink RX11 209 yX11_isPart ∈ lw_tbl := lm_t5 _ (List.mem_of_getElem? (i := 43) rfl)
theorem ml_X11_187 : Cond.methodLink RX11 187 yX11_lay ∈ lw_tbl := lm_t5 _ (List.mem_of_getElem? (i := 47) rfl)
theorem ml_X11_117 : Cond.methodLink RX11 117 yX11_rankBy ∈ lw_tbl := lm_t5 _ (List.mem_of_getElem? (i := 51) rfl)
theorem ml_X11_97 : Cond.methodLink RX11 97 yX11_has ∈ lw_tbl := lm_t5 _ (List.mem_of_getElem? (i := 55) rfl)
theorem ml_X11_101 : Cond.methodLink RX11 101 yX11_swapRows ∈ lw_tbl := lm_t5 _ (List.mem_of_getElem? (i := 58) rfl)
theorem ml_X11_105 : Cond.methodLink RX11 105 yX11_shrink ∈ lw_tbl := lm_t5 _ (List.mem_of_getElem? (i := 62) rfl)
theorem ml_X11_93 : Cond.methodLink RX11 93 yX11_common ∈ lw_tbl := lm_t5 _ (List.mem_of_getElem? (i := 66) rfl)
theorem ml_X11_123 : Cond.methodLink RX11 123 yX11_bits ∈ lw_tbl := lm_t5 _ (List.mem_of_getElem? (i := 69) rfl)
theorem ml_X11_126 : Cond.methodLink RX11 126 yX11_isRing ∈ lw_tbl := lm_t5 _ (List.mem_of_getElem? (i := 72) rfl)
theorem ml_X11_133 : Cond.methodLink RX11 133 yX11_isBound ∈ lw_tbl := lm_t5 _ (List.mem_of_getElem? (i := 76) rfl)
theorem ml_X11_130 : Cond.methodLink RX11 130 yX11_aboveOf ∈ lw_tbl := lm_t5 _ (List.mem_of_getElem? (i := 80) rfl)
theorem ml_X11_142 : Cond.methodLink RX11 142 yX11_findFactors ∈ lw_tbl := lm_t5 _ (List.mem_of_getElem? (i := 84) rfl)
theorem ml_X11_139 : Cond.methodLink RX11 139 yX11_clearColumn ∈ lw_tbl := lm_t5 _ (List.mem_of_getElem? (i := 88) rfl)
theorem ml_L_30 : Cond.methodLink RL 30 yX11_drops ∈ lw_tbl := lm_t5 _ (List.mem_of_getElem? (i := 92) rfl)
theorem ml_X11_180 : Cond.methodLink RX11 180 yX11_doDrops ∈ lw_tbl := lm_t5 _ (List.mem_of_getElem? (i := 96) rfl)
theorem ml_L_35 : Cond.methodLink RL 35 yX11_swaps ∈ lw_tbl := lm_t5 _ (List.mem_of_getElem? (i := 100) rfl)
theorem ml_X11_183 : Cond.methodLink RX11 183 yX11_doSwaps ∈ lw_tbl := lm_t5 _ (List.mem_of_getElem? (i := 104) rfl)
theorem ml_L_39 : Cond.methodLink RL 39 yX11_makes ∈ lw_tbl := lm_t5 _ (List.mem_of_getElem? (i := 108) rfl)
theorem ml_X11_190 : Cond.methodLink RX11 190 yX11_doMakes ∈ lw_tbl := lm_t5 _ (List.mem_of_getElem? (i := 112) rfl)
theorem ml_X11_154 : Cond.methodLink RX11 154 yX11_makesOne ∈ lw_tbl := lm_t5 _ (List.mem_of_getElem? (i := 116) rfl)
theorem ml_L_43 : Cond.methodLink RL 43 yX11_of ∈ lw_tbl := lm_t5 _ (List.mem_of_getElem? (i := 120) rfl)
theorem ml_L_47 : Cond.methodLink RL 47 yX11_rank ∈ lw_tbl := lm_t5 _ (List.mem_of_getElem? (i := 124) rfl)
theorem ml_X11_193 : Cond.methodLink RX11 193 yX11_isSet ∈ lw_tbl := lm_t5 _ (List.mem_of_getElem? (i := 128) rfl)
theorem ml_L_51 : Cond.methodLink RL 51 yX11_closed ∈ lw_tbl := lm_t5 _ (List.mem_of_getElem? (i := 132) rfl)
theorem ml_X11_196 : Cond.methodLink RX11 196 yX11_closedOf ∈ lw_tbl := lm_t5 _ (List.mem_of_getElem? (i := 136) rfl)
theorem ml_L_55 : Cond.methodLink RL 55 yX11_flats ∈ lw_tbl := lm_t5 _ (List.mem_of_getElem? (i := 140) rfl)
theorem ml_X11_202 : Cond.methodLink RX11 202 yX11_flatOf ∈ lw_tbl := lm_t5 _ (List.mem_of_getElem? (i := 144) rfl)
theorem ml_X11_199 : Cond.methodLink RX11 199 yX11_isFlat ∈ lw_tbl := lm_t5 _ (List.mem_of_getElem? (i := 148) rfl)
theorem ml_L_59 : Cond.methodLink RL 59 yX11_sign ∈ lw_tbl := lm_t5 _ (List.mem_of_getElem? (i := 152) rfl)
theorem ml_L_63 : Cond.methodLink RL 63 yX11_rings ∈ lw_tbl := lm_t5 _ (List.mem_of_getElem? (i := 156) rfl)
theorem ml_L_67 : Cond.methodLink RL 67 yX11_factor ∈ lw_tbl := lm_t5 _ (List.mem_of_getElem? (i := 160) rfl)
theorem ml_L_71 : Cond.methodLink RL 71 yX11_polynomial ∈ lw_tbl := lm_t5 _ (List.mem_of_getElem? (i := 164) rfl)
theorem ml_X11_205 : Cond.methodLink RX11 205 yX11_polynomialOf ∈ lw_tbl := lm_t5 _ (List.mem_of_getElem? (i := 168) rfl)
theorem ml_L_75 : Cond.methodLink RL 75 yX11_value ∈ lw_tbl := lm_t5 _ (List.mem_of_getElem? (i := 172) rfl)
theorem cn_X11_208 : Cond.constant RX11 208 (100000) ∈ lw_tbl := lm_t5 _ (List.mem_of_getElem? (i := 176) rfl)
theorem ml_L_79 : Cond.methodLink RL 79 yX11_within ∈ lw_tbl := lm_t5 _ (List.mem_of_getElem? (i := 177) rfl)
theorem ml_L_83 : Cond.methodLink RL 83 yX11_parts ∈ lw_tbl := lm_t5 _ (List.mem_of_getElem? (i := 181) rfl)
theorem ml_L_87 : Cond.methodLink RL 87 yX11_walls ∈ lw_tbl := lm_t5 _ (List.mem_of_getElem? (i := 185) rfl)
theorem ml_X11_212 : Cond.methodLink RX11 212 yX11_wallsOf ∈ lw_tbl := lm_t5 _ (List.mem_of_getElem? (i := 189) rfl)
theorem ml_L_92 : Cond.methodLink RL 92 yX11_way ∈ lw_tbl := lm_t5 _ (List.mem_of_getElem? (i := 193) rfl)
theorem ml_L_96 : Cond.methodLink RL 96 yX11_chain ∈ lw_tbl := lm_t5 _ (List.mem_of_getElem? (i := 197) rfl)
theorem ml_X11_218 : Cond.methodLink RX11 218 yX11_isChain ∈ lw_tbl := lm_t5 _ (List.mem_of_getElem? (i := 201) rfl)
theorem ml_X11_215 : Cond.methodLink RX11 215 yX11_isEven ∈ lw_tbl := lm_t5 _ (List.mem_of_getElem? (i := 205) rfl)
theorem ml_L_100 : Cond.methodLink RL 100 yX11_even ∈ lw_tbl := lm_t5 _ (List.mem_of_getElem? (i := 209) rfl)
theorem ml_L_104 : Cond.methodLink RL 104 yX11_places ∈ lw_tbl := lm_t5 _ (List.mem_of_getElem? (i := 213) rfl)
theorem ml_X11_225 : Cond.methodLink RX11 225 yX11_placesOver ∈ lw_tbl := lm_t5 _ (List.mem_of_getElem? (i := 217) rfl)
theorem ml_X11_228 : Cond.methodLink RX11 228 yX11_isGood ∈ lw_tbl := lm_t5 _ (List.mem_of_getElem? (i := 221) rfl)
theorem ml_X11_222 : Cond.methodLink RX11 222 yX11_isFreeOver ∈ lw_tbl := lm_t5 _ (List.mem_of_getElem? (i := 225) rfl)
theorem ml_L_108 : Cond.methodLink RL 108 yX11_base ∈ lw_tbl := lm_t5 _ (List.mem_of_getElem? (i := 229) rfl)
theorem ml_X11_237 : Cond.methodLink RX11 237 yX11_baseOf ∈ lw_tbl := lm_t5 _ (List.mem_of_getElem? (i := 233) rfl)
theorem ml_X11_234 : Cond.methodLink RX11 234 yX11_isBase ∈ lw_tbl := lm_t5 _ (List.mem_of_getElem? (i := 237) rfl)
theorem ml_X11_231 : Cond.methodLink RX11 231 yX11_broken ∈ lw_tbl := lm_t6 _ (List.mem_of_getElem? (i := 1) rfl)
theorem ml_L_112 : Cond.methodLink RL 112 yX11_form ∈ lw_tbl := lm_t6 _ (List.mem_of_getElem? (i := 5) rfl)
theorem ml_X11_240 : Cond.methodLink RX11 240 yX11_spread ∈ lw_tbl := lm_t6 _ (List.mem_of_getElem? (i := 9) rfl)
theorem ml_X11_243 : Cond.methodLink RX11 243 yX11_turned ∈ lw_tbl := lm_t6 _ (List.mem_of_getElem? (i := 13) rfl)
theorem ml_L_116 : Cond.methodLink RL 116 yX11_type ∈ lw_tbl := lm_t6 _ (List.mem_of_getElem? (i := 16) rfl)
theorem ml_L_121 : Cond.methodLink RL 121 yX11_clear ∈ lw_tbl := lm_t6 _ (List.mem_of_getElem? (i := 20) rfl)
theorem ml_L_125 : Cond.methodLink RL 125 yX11_reads ∈ lw_tbl := lm_t6 _ (List.mem_of_getElem? (i := 24) rfl)
theorem ml_X11_259 : Cond.methodLink RX11 259 yX11_here ∈ lw_tbl := lm_t6 _ (List.mem_of_getElem? (i := 28) rfl)
theorem ml_X11_255 : Cond.methodLink RX11 255 yX11_must ∈ lw_tbl := lm_t6 _ (List.mem_of_getElem? (i := 32) rfl)
theorem ml_X11_278 : Cond.methodLink RX11 278 yX11_readOrder ∈ lw_tbl := lm_t6 _ (List.mem_of_getElem? (i := 36) rfl)
theorem ml_X11_265 : Cond.methodLink RX11 265 yX11_numbersOf ∈ lw_tbl := lm_t6 _ (List.mem_of_getElem? (i := 40) rfl)
theorem ml_X11_271 : Cond.methodLink RX11 271 yX11_signed ∈ lw_tbl := lm_t6 _ (List.mem_of_getElem? (i := 43) rfl)
theorem ml_X11_262 : Cond.methodLink RX11 262 yX11_figure ∈ lw_tbl := lm_t6 _ (List.mem_of_getElem? (i := 47) rfl)
theorem ml_X11_274 : Cond.methodLink RX11 274 yX11_plain ∈ lw_tbl := lm_t6 _ (List.mem_of_getElem? (i := 51) rfl)
theorem ml_X11_281 : Cond.methodLink RX11 281 yX11_doOrder ∈ lw_tbl := lm_t6 _ (List.mem_of_getElem? (i := 55) rfl)
theorem ml_L_129 : Cond.methodLink RL 129 yX11_why ∈ lw_tbl := lm_t6 _ (List.mem_of_getElem? (i := 59) rfl)
theorem ml_X11_287 : Cond.methodLink RX11 287 yX11_cause ∈ lw_tbl := lm_t6 _ (List.mem_of_getElem? (i := 63) rfl)
theorem ml_L_137 : Cond.methodLink RL 137 yX11_told ∈ lw_tbl := lm_t6 _ (List.mem_of_getElem? (i := 67) rfl)
theorem ml_X11_290 : Cond.methodLink RX11 290 yX11_toldOf ∈ lw_tbl := lm_t6 _ (List.mem_of_getElem? (i := 71) rfl)
theorem ml_L_142 : Cond.methodLink RL 142 yX11_digest ∈ lw_tbl := lm_t6 _ (List.mem_of_getElem? (i := 75) rfl)
theorem cn_X11_299 : Cond.constantLong RX11 299 (2351) ∈ lw_tbl := lm_t6 _ (List.mem_of_getElem? (i := 79) rfl)
theorem ml_X11_301 : Cond.methodLink RX11 301 yX11_mix ∈ lw_tbl := lm_t6 _ (List.mem_of_getElem? (i := 80) rfl)
theorem cn_X11_293 : Cond.constantLong RX11 293 (31) ∈ lw_tbl := lm_t6 _ (List.mem_of_getElem? (i := 84) rfl)
theorem ac_native : Cond.native arraycopyName ∈ lw_tbl := lm_t2 _ (List.mem_of_getElem? (i := 99) rfl)
theorem ac_static : Cond.static arraycopyName ∈ lw_tbl := lm_t2 _ (List.mem_of_getElem? (i := 98) rfl)
theorem ac_init : Cond.initialized "java/lang/System" ∈ lw_tbl := lm_t1 _ (List.mem_of_getElem? (i := 14) rfl)
