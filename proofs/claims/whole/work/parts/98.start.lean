/-! THE LAW FROM ITS ENTRY: the worlds behind the constructors -/
def lsAt : List Nat → Nat → Nat
  | [], _ => 0
  | v :: _, 0 => v
  | _ :: l, n + 1 => lsAt l n
def am_fx (ad : Nat → Nat) (S : amS) (o : Nat) : Nat → List Value → List Value
  | _, [] => []
  | k, t :: l => am_cv ad (am_rd S o k t) :: am_fx ad S o (k + 1) l
theorem am_fx_get (ad : Nat → Nat) (S : amS) (o : Nat) : ∀ (l : List Value) (k j : Nat), (am_fx ad S o k l)[j]? = (l[j]?).map (fun t => am_cv ad (am_rd S o (k + j) t))
  | [], k, j => by simp [am_fx]
  | t :: l, k, 0 => by simp [am_fx]
  | t :: l, k, j + 1 => by
    rw [am_fx, List.getElem?_cons_succ, List.getElem?_cons_succ, am_fx_get ad S o l (k + 1) j, show k + 1 + j = k + (j + 1) by omega]
theorem am_fs_fx (ad : Nat → Nat) (S : amS) (o : Nat) (l : List Value) : am_fs ad S o l = am_fx ad S o 0 l := by
  apply List.ext_getElem?
  intro j
  rw [am_fx_get]
  simp only [am_fs, List.getElem?_mapIdx, Nat.zero_add]
theorem st_K {D : va_G} {cl : List vw_C} {t1 t2 : List (ClassId × FieldType)} {s : State} (h : va_K D cl t1 s) (hm : ∀ q ∈ t2, q ∈ t1) : va_K D cl t2 s := by
  refine ⟨h.1, fun k q hk => ?_⟩
  obtain ⟨i, hi⟩ := List.getElem?_of_mem (hm q (List.mem_of_getElem? hk))
  exact h.2 i q hi
theorem st_tys {h : List amSh} {ca : Nat → ClassId} {tys : ctK} (hh : ∀ (id : Nat) (sh : amSh), h[id]? = some sh → ∀ q, am_tyOf ca (sh, id) = some q → q ∈ tys) : ∀ q ∈ am_tys h ca, q ∈ tys := by
  intro q hq
  obtain ⟨⟨sh, id⟩, h1, h2⟩ := List.mem_filterMap.mp hq
  exact hh id sh (List.mem_zipIdx_iff_getElem?.mp h1) q h2
theorem st_ring (ad : Nat → Nat) : va_up (va_up (va_up (va_up (va_up (va_up (fun _ => none) 0 (some (ad 7))) 1 (some (ad 9))) 2 (some (ad 11))) 3 (some (ad 13))) 4 (some (ad 15))) 5 (some (ad 17)) = fun j => (([7, 9, 11, 13, 15, 17] : List Nat)[j]?).map ad := by
  funext j
  match j with
  | 0 => rfl
  | 1 => rfl
  | 2 => rfl
  | 3 => rfl
  | 4 => rfl
  | 5 => rfl
  | n + 6 => simp [va_up]
/-- the numbers that the constructors leave -/
def s0F (o k : Nat) : Int32 := bif Nat.beq k 1 && (Nat.beq o 1 || (Nat.beq o 3 || (Nat.beq o 7 || (Nat.beq o 9 || (Nat.beq o 11 || (Nat.beq o 13 || (Nat.beq o 15 || Nat.beq o 17))))))) then nI 3 else bif (Nat.beq o 0 && Nat.beq k 13) || ((Nat.beq o 19 && Nat.beq k 7) || (Nat.beq k 5 && (Nat.beq o 29 || (Nat.beq o 34 || Nat.beq o 42)))) then i32 (-1) else 0
def s0X : amS := (s0F, fun _ _ => 0, fun _ _ => 0, fun _ _ => 0)
def s0M : amS := (fun _ k => bif Nat.beq k 8 then i32 (-1) else 0, fun o => bif Nat.beq o 1 then upd (fun _ => 0) 36 (nI 3) else fun _ => 0, fun _ _ => 0, fun _ _ => 0)
theorem c0X : xCore s0X 0 (aSpace 3) [] [] 0 0 0 0 (i32 (-1)) := by
  refine ⟨⟨arr_space (by decide) (by decide), rfl, nI_0.symm, fun i j hi => absurd hi (Nat.not_lt_zero i)⟩, ⟨⟨0, by decide, nI_0.symm, nI_0.symm, by decide, fun k b hk => by simp at hk⟩, ⟨rfl, rfl, rfl⟩, ⟨nI_0.symm, by decide, fun k b hk => by simp at hk⟩, rfl, rfl⟩, 0, Nat.le_refl 0, nI_0.symm, ?_⟩
  exact ⟨⟨-1, by decide, by decide, rfl, fun z => absurd z (by decide)⟩, ⟨-1, by decide, by decide, rfl, fun z => absurd z (by decide)⟩, ⟨-1, by decide, by decide, rfl, fun z => absurd z (by decide)⟩, ⟨-1, by decide, by decide, rfl, fun z => absurd z (by decide)⟩⟩
theorem c0M : mCore s0M (aSpace 3) [] [] 0 0 0 0 (i32 (-1)) := by
  refine ⟨⟨arr_space (by decide) (by decide), rfl, nI_0.symm, fun i j hi => absurd hi (Nat.not_lt_zero i)⟩, ⟨nI_0.symm, by decide, fun k b hk => by simp at hk⟩, ⟨rfl, rfl, rfl⟩, ⟨nI_0.symm, by decide, fun k b hk => by simp at hk⟩, ⟨rfl, rfl⟩, Or.inl nI_0.symm⟩
def g_X : Nat → Nat := lsAt [0, 1, 2, 13, 14, 15, 16, 17, 18, 19, 20, 21, 22, 23, 24, 25, 26, 27, 28, 3, 4, 5, 6, 7, 8, 9, 10, 11, 12, 29, 30, 31, 32, 33, 34, 35, 36, 37, 38, 39, 40, 41, 42, 43, 44, 45, 46, 47, 48, 49, 50]
theorem gi_X : ∀ i, i < 51 → ∀ j, j < 51 → g_X i = g_X j → i = j := by decide +kernel
set_option maxRecDepth 100000 in
set_option maxHeartbeats 8000000 in
theorem mk_X {h0 : Nat} {ws : va_W} {tys : ctK} (h : bk_X10 h0 ws tys) : ∃ (ad : Nat → Nat) (ca : Nat → ClassId) (g : Nat → Nat), ad 0 = h0 ∧ (∀ (k : Nat) (q : Nat × va_E), (am_world shX ad ca s0X)[k]? = some q → ws[g k]? = some q) ∧ (∀ i j, i < 51 → j < 51 → g i = g j → i = j) ∧ ∀ q ∈ am_tys shX ca, q ∈ tys := by
  obtain ⟨q0_0, b1_0, t1_0, q2_0, b3_0, t3_0, q4_0, b5_0, t5_0, q6_0, b7_0, t7_0, q8_0, b9_0, t9_0, q10_0, b11_0, t11_0, q12_0, b13_0, t13_0, q14_0, b15_0, t15_0, q16_0, b17_0, t17_0, hw, ht, h1_0, h3_0, h5_0, h7_0, h9_0, h11_0, h13_0, h15_0, h17_0⟩ := h
  obtain ⟨q0_1, c0_1, rfl, rfl⟩ := h1_0
  obtain ⟨q0_2, b1_2, t1_2, q2_2, c2_2, q3_2, c3_2, q4_2, b5_2, t5_2, q6_2, b7_2, t7_2, q8_2, c8_2, rfl, rfl, h1_2, h5_2, h7_2⟩ := h3_0
  obtain ⟨q0_3, c0_3, rfl, rfl⟩ := h1_2
  obtain ⟨q0_4, c0_4, rfl, rfl⟩ := h5_2
  obtain ⟨q0_5, c0_5, rfl, rfl⟩ := h7_2
  obtain ⟨q0_6, c0_6, rfl, rfl⟩ := h5_0
  obtain ⟨r7, cr7, q0_7, a0_7, c0_7, q1_7, a1_7, c1_7, q2_7, a2_7, c2_7, q3_7, a3_7, c3_7, q4_7, a4_7, c4_7, q5_7, a5_7, c5_7, rfl, rfl⟩ := h7_0
  obtain ⟨q0_8, c0_8, q1_8, c1_8, q2_8, b3_8, t3_8, rfl, rfl, h3_8⟩ := h9_0
  obtain ⟨q0_9, c0_9, rfl, rfl⟩ := h3_8
  obtain ⟨q0_10, c0_10, q1_10, c1_10, q2_10, c2_10, rfl, rfl⟩ := h11_0
  obtain ⟨q0_11, b1_11, t1_11, q2_11, c2_11, rfl, rfl, h1_11⟩ := h13_0
  obtain ⟨q0_12, c0_12, rfl, rfl⟩ := h1_11
  obtain ⟨q0_13, c0_13, q1_13, c1_13, q2_13, b3_13, t3_13, rfl, rfl, h3_13⟩ := h15_0
  obtain ⟨q0_14, c0_14, rfl, rfl⟩ := h3_13
  obtain ⟨q0_15, c0_15, q1_15, c1_15, q2_15, c2_15, rfl, rfl⟩ := h17_0
  simp only [ctA, ctB, List.nil_append, List.cons_append, List.append_nil, List.set_cons_succ, List.set_cons_zero] at hw ht
  obtain ⟨ad, had⟩ : ∃ f : Nat → Nat, f = lsAt [h0, q0_0, q0_1, q4_0, q0_6, q6_0, r7, q0_7, a0_7, q1_7, a1_7, q2_7, a2_7, q3_7, a3_7, q4_7, a4_7, q5_7, a5_7, q2_0, q0_2, q0_3, q2_2, q3_2, q4_2, q0_4, q6_2, q0_5, q8_2, q8_0, q0_8, q1_8, q2_8, q0_9, q10_0, q0_10, q1_10, q2_10, q12_0, q0_11, q0_12, q2_11, q14_0, q0_13, q1_13, q2_13, q0_14, q16_0, q0_15, q1_15, q2_15] := ⟨_, rfl⟩
  obtain ⟨ca, hca⟩ : ∃ f : Nat → Nat, f = lsAt [0, 0, c0_1, 0, c0_6, 0, cr7, 0, c0_7, 0, c1_7, 0, c2_7, 0, c3_7, 0, c4_7, 0, c5_7, 0, 0, c0_3, c2_2, c3_2, 0, c0_4, 0, c0_5, c8_2, 0, c0_8, c1_8, 0, c0_9, 0, c0_10, c1_10, c2_10, 0, 0, c0_12, c2_11, 0, c0_13, c1_13, 0, c0_14, 0, c0_15, c1_15, c2_15] := ⟨_, rfl⟩
  have a0 : ad 0 = h0 := by rw [had]; rfl
  have a1 : ad 1 = q0_0 := by rw [had]; rfl
  have a2 : ad 2 = q0_1 := by rw [had]; rfl
  have a3 : ad 3 = q4_0 := by rw [had]; rfl
  have a4 : ad 4 = q0_6 := by rw [had]; rfl
  have a5 : ad 5 = q6_0 := by rw [had]; rfl
  have a6 : ad 6 = r7 := by rw [had]; rfl
  have a7 : ad 7 = q0_7 := by rw [had]; rfl
  have a8 : ad 8 = a0_7 := by rw [had]; rfl
  have a9 : ad 9 = q1_7 := by rw [had]; rfl
  have a10 : ad 10 = a1_7 := by rw [had]; rfl
  have a11 : ad 11 = q2_7 := by rw [had]; rfl
  have a12 : ad 12 = a2_7 := by rw [had]; rfl
  have a13 : ad 13 = q3_7 := by rw [had]; rfl
  have a14 : ad 14 = a3_7 := by rw [had]; rfl
  have a15 : ad 15 = q4_7 := by rw [had]; rfl
  have a16 : ad 16 = a4_7 := by rw [had]; rfl
  have a17 : ad 17 = q5_7 := by rw [had]; rfl
  have a18 : ad 18 = a5_7 := by rw [had]; rfl
  have a19 : ad 19 = q2_0 := by rw [had]; rfl
  have a20 : ad 20 = q0_2 := by rw [had]; rfl
  have a21 : ad 21 = q0_3 := by rw [had]; rfl
  have a22 : ad 22 = q2_2 := by rw [had]; rfl
  have a23 : ad 23 = q3_2 := by rw [had]; rfl
  have a24 : ad 24 = q4_2 := by rw [had]; rfl
  have a25 : ad 25 = q0_4 := by rw [had]; rfl
  have a26 : ad 26 = q6_2 := by rw [had]; rfl
  have a27 : ad 27 = q0_5 := by rw [had]; rfl
  have a28 : ad 28 = q8_2 := by rw [had]; rfl
  have a29 : ad 29 = q8_0 := by rw [had]; rfl
  have a30 : ad 30 = q0_8 := by rw [had]; rfl
  have a31 : ad 31 = q1_8 := by rw [had]; rfl
  have a32 : ad 32 = q2_8 := by rw [had]; rfl
  have a33 : ad 33 = q0_9 := by rw [had]; rfl
  have a34 : ad 34 = q10_0 := by rw [had]; rfl
  have a35 : ad 35 = q0_10 := by rw [had]; rfl
  have a36 : ad 36 = q1_10 := by rw [had]; rfl
  have a37 : ad 37 = q2_10 := by rw [had]; rfl
  have a38 : ad 38 = q12_0 := by rw [had]; rfl
  have a39 : ad 39 = q0_11 := by rw [had]; rfl
  have a40 : ad 40 = q0_12 := by rw [had]; rfl
  have a41 : ad 41 = q2_11 := by rw [had]; rfl
  have a42 : ad 42 = q14_0 := by rw [had]; rfl
  have a43 : ad 43 = q0_13 := by rw [had]; rfl
  have a44 : ad 44 = q1_13 := by rw [had]; rfl
  have a45 : ad 45 = q2_13 := by rw [had]; rfl
  have a46 : ad 46 = q0_14 := by rw [had]; rfl
  have a47 : ad 47 = q16_0 := by rw [had]; rfl
  have a48 : ad 48 = q0_15 := by rw [had]; rfl
  have a49 : ad 49 = q1_15 := by rw [had]; rfl
  have a50 : ad 50 = q2_15 := by rw [had]; rfl
  have k2 : ca 2 = c0_1 := by rw [hca]; rfl
  have k4 : ca 4 = c0_6 := by rw [hca]; rfl
  have k6 : ca 6 = cr7 := by rw [hca]; rfl
  have k8 : ca 8 = c0_7 := by rw [hca]; rfl
  have k10 : ca 10 = c1_7 := by rw [hca]; rfl
  have k12 : ca 12 = c2_7 := by rw [hca]; rfl
  have k14 : ca 14 = c3_7 := by rw [hca]; rfl
  have k16 : ca 16 = c4_7 := by rw [hca]; rfl
  have k18 : ca 18 = c5_7 := by rw [hca]; rfl
  have k21 : ca 21 = c0_3 := by rw [hca]; rfl
  have k22 : ca 22 = c2_2 := by rw [hca]; rfl
  have k23 : ca 23 = c3_2 := by rw [hca]; rfl
  have k25 : ca 25 = c0_4 := by rw [hca]; rfl
  have k27 : ca 27 = c0_5 := by rw [hca]; rfl
  have k28 : ca 28 = c8_2 := by rw [hca]; rfl
  have k30 : ca 30 = c0_8 := by rw [hca]; rfl
  have k31 : ca 31 = c1_8 := by rw [hca]; rfl
  have k33 : ca 33 = c0_9 := by rw [hca]; rfl
  have k35 : ca 35 = c0_10 := by rw [hca]; rfl
  have k36 : ca 36 = c1_10 := by rw [hca]; rfl
  have k37 : ca 37 = c2_10 := by rw [hca]; rfl
  have k40 : ca 40 = c0_12 := by rw [hca]; rfl
  have k41 : ca 41 = c2_11 := by rw [hca]; rfl
  have k43 : ca 43 = c0_13 := by rw [hca]; rfl
  have k44 : ca 44 = c1_13 := by rw [hca]; rfl
  have k46 : ca 46 = c0_14 := by rw [hca]; rfl
  have k48 : ca 48 = c0_15 := by rw [hca]; rfl
  have k49 : ca 49 = c1_15 := by rw [hca]; rfl
  have k50 : ca 50 = c2_15 := by rw [hca]; rfl
  refine ⟨ad, ca, g_X, a0, ?_, fun i j hi hj => gi_X i hi j hj, ?_⟩
  · intro k q hq
    have hk : k < 51 := by have := (List.getElem?_eq_some_iff.mp hq).1; rw [am_world_len] at this; exact this
    rcases (show k = 0 ∨ k = 1 ∨ k = 2 ∨ k = 3 ∨ k = 4 ∨ k = 5 ∨ k = 6 ∨ k = 7 ∨ k = 8 ∨ k = 9 ∨ k = 10 ∨ k = 11 ∨ k = 12 ∨ k = 13 ∨ k = 14 ∨ k = 15 ∨ k = 16 ∨ k = 17 ∨ k = 18 ∨ k = 19 ∨ k = 20 ∨ k = 21 ∨ k = 22 ∨ k = 23 ∨ k = 24 ∨ k = 25 ∨ k = 26 ∨ k = 27 ∨ k = 28 ∨ k = 29 ∨ k = 30 ∨ k = 31 ∨ k = 32 ∨ k = 33 ∨ k = 34 ∨ k = 35 ∨ k = 36 ∨ k = 37 ∨ k = 38 ∨ k = 39 ∨ k = 40 ∨ k = 41 ∨ k = 42 ∨ k = 43 ∨ k = 44 ∨ k = 45 ∨ k = 46 ∨ k = 47 ∨ k = 48 ∨ k = 49 ∨ k = 50 by omega) with z | z | z | z | z | z | z | z | z | z | z | z | z | z | z | z | z | z | z | z | z | z | z | z | z | z | z | z | z | z | z | z | z | z | z | z | z | z | z | z | z | z | z | z | z | z | z | z | z | z | z
    · subst z
      rw [am_world_get (sh := .inr (10, [.ref 1, .ref 3, .ref 5, .ref 19, .ref 29, .ref 34, .ref 38, .ref 42, .ref 47, .int 0, .int 0, .int 0, .int 0, .int 0])) rfl] at hq
      obtain rfl := Option.some.inj hq
      rw [hw]
      show _ = some (ad 0, Sum.inr (_, am_fs ad s0X 0 _))
      rw [am_fs_fx]
      show _ = some (ad 0, Sum.inr (10, ([.ref (ad 1), .ref (ad 3), .ref (ad 5), .ref (ad 19), .ref (ad 29), .ref (ad 34), .ref (ad 38), .ref (ad 42), .ref (ad 47), .int (s0X.1 0 9), .int (s0X.1 0 10), .int (s0X.1 0 11), .int (s0X.1 0 12), .int (s0X.1 0 13)] : List Value)))
      rw [a0, a1, a3, a5, a19, a29, a34, a38, a42, a47]
      rfl
    · subst z
      rw [am_world_get (sh := .inr (1, [.ref 2, .int 0, .int 0, .int 0])) rfl] at hq
      obtain rfl := Option.some.inj hq
      rw [hw]
      show _ = some (ad 1, Sum.inr (_, am_fs ad s0X 1 _))
      rw [am_fs_fx]
      show _ = some (ad 1, Sum.inr (1, ([.ref (ad 2), .int (s0X.1 1 1), .int (s0X.1 1 2), .int (s0X.1 1 3)] : List Value)))
      rw [a1, a2]
      rfl
    · subst z
      rw [am_world_get (sh := .inl (36, .int, [])) rfl] at hq
      obtain rfl := Option.some.inj hq
      rw [hw]
      show _ = some (ad 2, Sum.inl (ca 2, _))
      rw [a2, k2]
      rfl
    · subst z
      rw [am_world_get (sh := .inr (1, [.ref 4, .int 0, .int 0, .int 0])) rfl] at hq
      obtain rfl := Option.some.inj hq
      rw [hw]
      show _ = some (ad 3, Sum.inr (_, am_fs ad s0X 3 _))
      rw [am_fs_fx]
      show _ = some (ad 3, Sum.inr (1, ([.ref (ad 4), .int (s0X.1 3 1), .int (s0X.1 3 2), .int (s0X.1 3 3)] : List Value)))
      rw [a3, a4]
      rfl
    · subst z
      rw [am_world_get (sh := .inl (36, .int, [])) rfl] at hq
      obtain rfl := Option.some.inj hq
      rw [hw]
      show _ = some (ad 4, Sum.inl (ca 4, _))
      rw [a4, k4]
      rfl
    · subst z
      rw [am_world_get (sh := .inr (3, [.ref 6, .int 0, .int 0])) rfl] at hq
      obtain rfl := Option.some.inj hq
      rw [hw]
      show _ = some (ad 5, Sum.inr (_, am_fs ad s0X 5 _))
      rw [am_fs_fx]
      show _ = some (ad 5, Sum.inr (3, ([.ref (ad 6), .int (s0X.1 5 1), .int (s0X.1 5 2)] : List Value)))
      rw [a5, a6]
      rfl
    · subst z
      rw [am_world_get (sh := .inl (6, .object "PlaneCuts$Arrangement", [7, 9, 11, 13, 15, 17])) rfl] at hq
      obtain rfl := Option.some.inj hq
      rw [hw]
      show _ = some (ad 6, Sum.inl (ca 6, 6, Sum.inr (Sum.inr (Sum.inr (Sum.inr (fun j => (([7, 9, 11, 13, 15, 17] : List Nat)[j]?).map ad))))))
      rw [← st_ring ad, a6, k6, a7, a9, a11, a13, a15, a17]
      rfl
    · subst z
      rw [am_world_get (sh := .inr (1, [.ref 8, .int 0, .int 0, .int 0])) rfl] at hq
      obtain rfl := Option.some.inj hq
      rw [hw]
      show _ = some (ad 7, Sum.inr (_, am_fs ad s0X 7 _))
      rw [am_fs_fx]
      show _ = some (ad 7, Sum.inr (1, ([.ref (ad 8), .int (s0X.1 7 1), .int (s0X.1 7 2), .int (s0X.1 7 3)] : List Value)))
      rw [a7, a8]
      rfl
    · subst z
      rw [am_world_get (sh := .inl (36, .int, [])) rfl] at hq
      obtain rfl := Option.some.inj hq
      rw [hw]
      show _ = some (ad 8, Sum.inl (ca 8, _))
      rw [a8, k8]
      rfl
    · subst z
      rw [am_world_get (sh := .inr (1, [.ref 10, .int 0, .int 0, .int 0])) rfl] at hq
      obtain rfl := Option.some.inj hq
      rw [hw]
      show _ = some (ad 9, Sum.inr (_, am_fs ad s0X 9 _))
      rw [am_fs_fx]
      show _ = some (ad 9, Sum.inr (1, ([.ref (ad 10), .int (s0X.1 9 1), .int (s0X.1 9 2), .int (s0X.1 9 3)] : List Value)))
      rw [a9, a10]
      rfl
    · subst z
      rw [am_world_get (sh := .inl (36, .int, [])) rfl] at hq
      obtain rfl := Option.some.inj hq
      rw [hw]
      show _ = some (ad 10, Sum.inl (ca 10, _))
      rw [a10, k10]
      rfl
    · subst z
      rw [am_world_get (sh := .inr (1, [.ref 12, .int 0, .int 0, .int 0])) rfl] at hq
      obtain rfl := Option.some.inj hq
      rw [hw]
      show _ = some (ad 11, Sum.inr (_, am_fs ad s0X 11 _))
      rw [am_fs_fx]
      show _ = some (ad 11, Sum.inr (1, ([.ref (ad 12), .int (s0X.1 11 1), .int (s0X.1 11 2), .int (s0X.1 11 3)] : List Value)))
      rw [a11, a12]
      rfl
    · subst z
      rw [am_world_get (sh := .inl (36, .int, [])) rfl] at hq
      obtain rfl := Option.some.inj hq
      rw [hw]
      show _ = some (ad 12, Sum.inl (ca 12, _))
      rw [a12, k12]
      rfl
    · subst z
      rw [am_world_get (sh := .inr (1, [.ref 14, .int 0, .int 0, .int 0])) rfl] at hq
      obtain rfl := Option.some.inj hq
      rw [hw]
      show _ = some (ad 13, Sum.inr (_, am_fs ad s0X 13 _))
      rw [am_fs_fx]
      show _ = some (ad 13, Sum.inr (1, ([.ref (ad 14), .int (s0X.1 13 1), .int (s0X.1 13 2), .int (s0X.1 13 3)] : List Value)))
      rw [a13, a14]
      rfl
    · subst z
      rw [am_world_get (sh := .inl (36, .int, [])) rfl] at hq
      obtain rfl := Option.some.inj hq
      rw [hw]
      show _ = some (ad 14, Sum.inl (ca 14, _))
      rw [a14, k14]
      rfl
    · subst z
      rw [am_world_get (sh := .inr (1, [.ref 16, .int 0, .int 0, .int 0])) rfl] at hq
      obtain rfl := Option.some.inj hq
      rw [hw]
      show _ = some (ad 15, Sum.inr (_, am_fs ad s0X 15 _))
      rw [am_fs_fx]
      show _ = some (ad 15, Sum.inr (1, ([.ref (ad 16), .int (s0X.1 15 1), .int (s0X.1 15 2), .int (s0X.1 15 3)] : List Value)))
      rw [a15, a16]
      rfl
    · subst z
      rw [am_world_get (sh := .inl (36, .int, [])) rfl] at hq
      obtain rfl := Option.some.inj hq
      rw [hw]
      show _ = some (ad 16, Sum.inl (ca 16, _))
      rw [a16, k16]
      rfl
    · subst z
      rw [am_world_get (sh := .inr (1, [.ref 18, .int 0, .int 0, .int 0])) rfl] at hq
      obtain rfl := Option.some.inj hq
      rw [hw]
      show _ = some (ad 17, Sum.inr (_, am_fs ad s0X 17 _))
      rw [am_fs_fx]
      show _ = some (ad 17, Sum.inr (1, ([.ref (ad 18), .int (s0X.1 17 1), .int (s0X.1 17 2), .int (s0X.1 17 3)] : List Value)))
      rw [a17, a18]
      rfl
    · subst z
      rw [am_world_get (sh := .inl (36, .int, [])) rfl] at hq
      obtain rfl := Option.some.inj hq
      rw [hw]
      show _ = some (ad 18, Sum.inl (ca 18, _))
      rw [a18, k18]
      rfl
    · subst z
      rw [am_world_get (sh := .inr (6, [.ref 1, .ref 20, .ref 22, .ref 23, .ref 24, .ref 26, .ref 28, .int 0])) rfl] at hq
      obtain rfl := Option.some.inj hq
      rw [hw]
      show _ = some (ad 19, Sum.inr (_, am_fs ad s0X 19 _))
      rw [am_fs_fx]
      show _ = some (ad 19, Sum.inr (6, ([.ref (ad 1), .ref (ad 20), .ref (ad 22), .ref (ad 23), .ref (ad 24), .ref (ad 26), .ref (ad 28), .int (s0X.1 19 7)] : List Value)))
      rw [a1, a19, a20, a22, a23, a24, a26, a28]
      rfl
    · subst z
      rw [am_world_get (sh := .inr (5, [.ref 21, .int 0, .int 0, .int 0])) rfl] at hq
      obtain rfl := Option.some.inj hq
      rw [hw]
      show _ = some (ad 20, Sum.inr (_, am_fs ad s0X 20 _))
      rw [am_fs_fx]
      show _ = some (ad 20, Sum.inr (5, ([.ref (ad 21), .int (s0X.1 20 1), .int (s0X.1 20 2), .int (s0X.1 20 3)] : List Value)))
      rw [a20, a21]
      rfl
    · subst z
      rw [am_world_get (sh := .inl (45, .long, [])) rfl] at hq
      obtain rfl := Option.some.inj hq
      rw [hw]
      show _ = some (ad 21, Sum.inl (ca 21, _))
      rw [a21, k21]
      rfl
    · subst z
      rw [am_world_get (sh := .inl (512, .int, [])) rfl] at hq
      obtain rfl := Option.some.inj hq
      rw [hw]
      show _ = some (ad 22, Sum.inl (ca 22, _))
      rw [a22, k22]
      rfl
    · subst z
      rw [am_world_get (sh := .inl (512, .boolean, [])) rfl] at hq
      obtain rfl := Option.some.inj hq
      rw [hw]
      show _ = some (ad 23, Sum.inl (ca 23, _))
      rw [a23, k23]
      rfl
    · subst z
      rw [am_world_get (sh := .inr (4, [.ref 25, .int 0])) rfl] at hq
      obtain rfl := Option.some.inj hq
      rw [hw]
      show _ = some (ad 24, Sum.inr (_, am_fs ad s0X 24 _))
      rw [am_fs_fx]
      show _ = some (ad 24, Sum.inr (4, ([.ref (ad 25), .int (s0X.1 24 1)] : List Value)))
      rw [a24, a25]
      rfl
    · subst z
      rw [am_world_get (sh := .inl (126, .int, [])) rfl] at hq
      obtain rfl := Option.some.inj hq
      rw [hw]
      show _ = some (ad 25, Sum.inl (ca 25, _))
      rw [a25, k25]
      rfl
    · subst z
      rw [am_world_get (sh := .inr (4, [.ref 27, .int 0])) rfl] at hq
      obtain rfl := Option.some.inj hq
      rw [hw]
      show _ = some (ad 26, Sum.inr (_, am_fs ad s0X 26 _))
      rw [am_fs_fx]
      show _ = some (ad 26, Sum.inr (4, ([.ref (ad 27), .int (s0X.1 26 1)] : List Value)))
      rw [a26, a27]
      rfl
    · subst z
      rw [am_world_get (sh := .inl (126, .int, [])) rfl] at hq
      obtain rfl := Option.some.inj hq
      rw [hw]
      show _ = some (ad 27, Sum.inl (ca 27, _))
      rw [a27, k27]
      rfl
    · subst z
      rw [am_world_get (sh := .inl (9, .int, [])) rfl] at hq
      obtain rfl := Option.some.inj hq
      rw [hw]
      show _ = some (ad 28, Sum.inl (ca 28, _))
      rw [a28, k28]
      rfl
    · subst z
      rw [am_world_get (sh := .inr (8, [.ref 1, .ref 19, .ref 30, .ref 31, .ref 32, .int 0])) rfl] at hq
      obtain rfl := Option.some.inj hq
      rw [hw]
      show _ = some (ad 29, Sum.inr (_, am_fs ad s0X 29 _))
      rw [am_fs_fx]
      show _ = some (ad 29, Sum.inr (8, ([.ref (ad 1), .ref (ad 19), .ref (ad 30), .ref (ad 31), .ref (ad 32), .int (s0X.1 29 5)] : List Value)))
      rw [a1, a19, a29, a30, a31, a32]
      rfl
    · subst z
      rw [am_world_get (sh := .inl (512, .boolean, [])) rfl] at hq
      obtain rfl := Option.some.inj hq
      rw [hw]
      show _ = some (ad 30, Sum.inl (ca 30, _))
      rw [a30, k30]
      rfl
    · subst z
      rw [am_world_get (sh := .inl (512, .int, [])) rfl] at hq
      obtain rfl := Option.some.inj hq
      rw [hw]
      show _ = some (ad 31, Sum.inl (ca 31, _))
      rw [a31, k31]
      rfl
    · subst z
      rw [am_world_get (sh := .inr (4, [.ref 33, .int 0])) rfl] at hq
      obtain rfl := Option.some.inj hq
      rw [hw]
      show _ = some (ad 32, Sum.inr (_, am_fs ad s0X 32 _))
      rw [am_fs_fx]
      show _ = some (ad 32, Sum.inr (4, ([.ref (ad 33), .int (s0X.1 32 1)] : List Value)))
      rw [a32, a33]
      rfl
    · subst z
      rw [am_world_get (sh := .inl (186, .int, [])) rfl] at hq
      obtain rfl := Option.some.inj hq
      rw [hw]
      show _ = some (ad 33, Sum.inl (ca 33, _))
      rw [a33, k33]
      rfl
    · subst z
      rw [am_world_get (sh := .inr (7, [.ref 1, .ref 19, .ref 35, .ref 36, .ref 37, .int 0])) rfl] at hq
      obtain rfl := Option.some.inj hq
      rw [hw]
      show _ = some (ad 34, Sum.inr (_, am_fs ad s0X 34 _))
      rw [am_fs_fx]
      show _ = some (ad 34, Sum.inr (7, ([.ref (ad 1), .ref (ad 19), .ref (ad 35), .ref (ad 36), .ref (ad 37), .int (s0X.1 34 5)] : List Value)))
      rw [a1, a19, a34, a35, a36, a37]
      rfl
    · subst z
      rw [am_world_get (sh := .inl (512, .boolean, [])) rfl] at hq
      obtain rfl := Option.some.inj hq
      rw [hw]
      show _ = some (ad 35, Sum.inl (ca 35, _))
      rw [a35, k35]
      rfl
    · subst z
      rw [am_world_get (sh := .inl (512, .boolean, [])) rfl] at hq
      obtain rfl := Option.some.inj hq
      rw [hw]
      show _ = some (ad 36, Sum.inl (ca 36, _))
      rw [a36, k36]
      rfl
    · subst z
      rw [am_world_get (sh := .inl (5, .int, [])) rfl] at hq
      obtain rfl := Option.some.inj hq
      rw [hw]
      show _ = some (ad 37, Sum.inl (ca 37, _))
      rw [a37, k37]
      rfl
    · subst z
      rw [am_world_get (sh := .inr (2, [.ref 1, .ref 19, .ref 39, .ref 41])) rfl] at hq
      obtain rfl := Option.some.inj hq
      rw [hw]
      show _ = some (ad 38, Sum.inr (_, am_fs ad s0X 38 _))
      rw [am_fs_fx]
      show _ = some (ad 38, Sum.inr (2, ([.ref (ad 1), .ref (ad 19), .ref (ad 39), .ref (ad 41)] : List Value)))
      rw [a1, a19, a38, a39, a41]
      rfl
    · subst z
      rw [am_world_get (sh := .inr (5, [.ref 40, .int 0, .int 0, .int 0])) rfl] at hq
      obtain rfl := Option.some.inj hq
      rw [hw]
      show _ = some (ad 39, Sum.inr (_, am_fs ad s0X 39 _))
      rw [am_fs_fx]
      show _ = some (ad 39, Sum.inr (5, ([.ref (ad 40), .int (s0X.1 39 1), .int (s0X.1 39 2), .int (s0X.1 39 3)] : List Value)))
      rw [a39, a40]
      rfl
    · subst z
      rw [am_world_get (sh := .inl (45, .long, [])) rfl] at hq
      obtain rfl := Option.some.inj hq
      rw [hw]
      show _ = some (ad 40, Sum.inl (ca 40, _))
      rw [a40, k40]
      rfl
    · subst z
      rw [am_world_get (sh := .inl (4, .int, [])) rfl] at hq
      obtain rfl := Option.some.inj hq
      rw [hw]
      show _ = some (ad 41, Sum.inl (ca 41, _))
      rw [a41, k41]
      rfl
    · subst z
      rw [am_world_get (sh := .inr (0, [.ref 1, .ref 19, .ref 43, .ref 44, .ref 45, .int 0])) rfl] at hq
      obtain rfl := Option.some.inj hq
      rw [hw]
      show _ = some (ad 42, Sum.inr (_, am_fs ad s0X 42 _))
      rw [am_fs_fx]
      show _ = some (ad 42, Sum.inr (0, ([.ref (ad 1), .ref (ad 19), .ref (ad 43), .ref (ad 44), .ref (ad 45), .int (s0X.1 42 5)] : List Value)))
      rw [a1, a19, a42, a43, a44, a45]
      rfl
    · subst z
      rw [am_world_get (sh := .inl (512, .int, [])) rfl] at hq
      obtain rfl := Option.some.inj hq
      rw [hw]
      show _ = some (ad 43, Sum.inl (ca 43, _))
      rw [a43, k43]
      rfl
    · subst z
      rw [am_world_get (sh := .inl (512, .int, [])) rfl] at hq
      obtain rfl := Option.some.inj hq
      rw [hw]
      show _ = some (ad 44, Sum.inl (ca 44, _))
      rw [a44, k44]
      rfl
    · subst z
      rw [am_world_get (sh := .inr (4, [.ref 46, .int 0])) rfl] at hq
      obtain rfl := Option.some.inj hq
      rw [hw]
      show _ = some (ad 45, Sum.inr (_, am_fs ad s0X 45 _))
      rw [am_fs_fx]
      show _ = some (ad 45, Sum.inr (4, ([.ref (ad 46), .int (s0X.1 45 1)] : List Value)))
      rw [a45, a46]
      rfl
    · subst z
      rw [am_world_get (sh := .inl (126, .int, [])) rfl] at hq
      obtain rfl := Option.some.inj hq
      rw [hw]
      show _ = some (ad 46, Sum.inl (ca 46, _))
      rw [a46, k46]
      rfl
    · subst z
      rw [am_world_get (sh := .inr (9, [.ref 48, .ref 49, .ref 50, .int 0, .int 0, .int 0])) rfl] at hq
      obtain rfl := Option.some.inj hq
      rw [hw]
      show _ = some (ad 47, Sum.inr (_, am_fs ad s0X 47 _))
      rw [am_fs_fx]
      show _ = some (ad 47, Sum.inr (9, ([.ref (ad 48), .ref (ad 49), .ref (ad 50), .int (s0X.1 47 3), .int (s0X.1 47 4), .int (s0X.1 47 5)] : List Value)))
      rw [a47, a48, a49, a50]
      rfl
    · subst z
      rw [am_world_get (sh := .inl (100, .byte, [])) rfl] at hq
      obtain rfl := Option.some.inj hq
      rw [hw]
      show _ = some (ad 48, Sum.inl (ca 48, _))
      rw [a48, k48]
      rfl
    · subst z
      rw [am_world_get (sh := .inl (34, .int, [])) rfl] at hq
      obtain rfl := Option.some.inj hq
      rw [hw]
      show _ = some (ad 49, Sum.inl (ca 49, _))
      rw [a49, k49]
      rfl
    · subst z
      rw [am_world_get (sh := .inl (136, .int, [])) rfl] at hq
      obtain rfl := Option.some.inj hq
      rw [hw]
      show _ = some (ad 50, Sum.inl (ca 50, _))
      rw [a50, k50]
      rfl
  · refine st_tys (fun id sh hsh q hq => ?_)
    have hk : id < 51 := (List.getElem?_eq_some_iff.mp hsh).1
    rw [ht]
    rcases (show id = 0 ∨ id = 1 ∨ id = 2 ∨ id = 3 ∨ id = 4 ∨ id = 5 ∨ id = 6 ∨ id = 7 ∨ id = 8 ∨ id = 9 ∨ id = 10 ∨ id = 11 ∨ id = 12 ∨ id = 13 ∨ id = 14 ∨ id = 15 ∨ id = 16 ∨ id = 17 ∨ id = 18 ∨ id = 19 ∨ id = 20 ∨ id = 21 ∨ id = 22 ∨ id = 23 ∨ id = 24 ∨ id = 25 ∨ id = 26 ∨ id = 27 ∨ id = 28 ∨ id = 29 ∨ id = 30 ∨ id = 31 ∨ id = 32 ∨ id = 33 ∨ id = 34 ∨ id = 35 ∨ id = 36 ∨ id = 37 ∨ id = 38 ∨ id = 39 ∨ id = 40 ∨ id = 41 ∨ id = 42 ∨ id = 43 ∨ id = 44 ∨ id = 45 ∨ id = 46 ∨ id = 47 ∨ id = 48 ∨ id = 49 ∨ id = 50 by omega) with z | z | z | z | z | z | z | z | z | z | z | z | z | z | z | z | z | z | z | z | z | z | z | z | z | z | z | z | z | z | z | z | z | z | z | z | z | z | z | z | z | z | z | z | z | z | z | z | z | z | z
    · subst z
      obtain rfl := Option.some.inj hsh
      cases hq
    · subst z
      obtain rfl := Option.some.inj hsh
      cases hq
    · subst z
      obtain rfl := Option.some.inj hsh
      obtain rfl := Option.some.inj hq
      rw [k2]
      exact List.mem_of_getElem? (i := 0) rfl
    · subst z
      obtain rfl := Option.some.inj hsh
      cases hq
    · subst z
      obtain rfl := Option.some.inj hsh
      obtain rfl := Option.some.inj hq
      rw [k4]
      exact List.mem_of_getElem? (i := 7) rfl
    · subst z
      obtain rfl := Option.some.inj hsh
      cases hq
    · subst z
      obtain rfl := Option.some.inj hsh
      obtain rfl := Option.some.inj hq
      rw [k6]
      exact List.mem_of_getElem? (i := 8) rfl
    · subst z
      obtain rfl := Option.some.inj hsh
      cases hq
    · subst z
      obtain rfl := Option.some.inj hsh
      obtain rfl := Option.some.inj hq
      rw [k8]
      exact List.mem_of_getElem? (i := 9) rfl
    · subst z
      obtain rfl := Option.some.inj hsh
      cases hq
    · subst z
      obtain rfl := Option.some.inj hsh
      obtain rfl := Option.some.inj hq
      rw [k10]
      exact List.mem_of_getElem? (i := 10) rfl
    · subst z
      obtain rfl := Option.some.inj hsh
      cases hq
    · subst z
      obtain rfl := Option.some.inj hsh
      obtain rfl := Option.some.inj hq
      rw [k12]
      exact List.mem_of_getElem? (i := 11) rfl
    · subst z
      obtain rfl := Option.some.inj hsh
      cases hq
    · subst z
      obtain rfl := Option.some.inj hsh
      obtain rfl := Option.some.inj hq
      rw [k14]
      exact List.mem_of_getElem? (i := 12) rfl
    · subst z
      obtain rfl := Option.some.inj hsh
      cases hq
    · subst z
      obtain rfl := Option.some.inj hsh
      obtain rfl := Option.some.inj hq
      rw [k16]
      exact List.mem_of_getElem? (i := 13) rfl
    · subst z
      obtain rfl := Option.some.inj hsh
      cases hq
    · subst z
      obtain rfl := Option.some.inj hsh
      obtain rfl := Option.some.inj hq
      rw [k18]
      exact List.mem_of_getElem? (i := 14) rfl
    · subst z
      obtain rfl := Option.some.inj hsh
      cases hq
    · subst z
      obtain rfl := Option.some.inj hsh
      cases hq
    · subst z
      obtain rfl := Option.some.inj hsh
      obtain rfl := Option.some.inj hq
      rw [k21]
      exact List.mem_of_getElem? (i := 1) rfl
    · subst z
      obtain rfl := Option.some.inj hsh
      obtain rfl := Option.some.inj hq
      rw [k22]
      exact List.mem_of_getElem? (i := 2) rfl
    · subst z
      obtain rfl := Option.some.inj hsh
      obtain rfl := Option.some.inj hq
      rw [k23]
      exact List.mem_of_getElem? (i := 3) rfl
    · subst z
      obtain rfl := Option.some.inj hsh
      cases hq
    · subst z
      obtain rfl := Option.some.inj hsh
      obtain rfl := Option.some.inj hq
      rw [k25]
      exact List.mem_of_getElem? (i := 4) rfl
    · subst z
      obtain rfl := Option.some.inj hsh
      cases hq
    · subst z
      obtain rfl := Option.some.inj hsh
      obtain rfl := Option.some.inj hq
      rw [k27]
      exact List.mem_of_getElem? (i := 5) rfl
    · subst z
      obtain rfl := Option.some.inj hsh
      obtain rfl := Option.some.inj hq
      rw [k28]
      exact List.mem_of_getElem? (i := 6) rfl
    · subst z
      obtain rfl := Option.some.inj hsh
      cases hq
    · subst z
      obtain rfl := Option.some.inj hsh
      obtain rfl := Option.some.inj hq
      rw [k30]
      exact List.mem_of_getElem? (i := 15) rfl
    · subst z
      obtain rfl := Option.some.inj hsh
      obtain rfl := Option.some.inj hq
      rw [k31]
      exact List.mem_of_getElem? (i := 16) rfl
    · subst z
      obtain rfl := Option.some.inj hsh
      cases hq
    · subst z
      obtain rfl := Option.some.inj hsh
      obtain rfl := Option.some.inj hq
      rw [k33]
      exact List.mem_of_getElem? (i := 17) rfl
    · subst z
      obtain rfl := Option.some.inj hsh
      cases hq
    · subst z
      obtain rfl := Option.some.inj hsh
      obtain rfl := Option.some.inj hq
      rw [k35]
      exact List.mem_of_getElem? (i := 18) rfl
    · subst z
      obtain rfl := Option.some.inj hsh
      obtain rfl := Option.some.inj hq
      rw [k36]
      exact List.mem_of_getElem? (i := 19) rfl
    · subst z
      obtain rfl := Option.some.inj hsh
      obtain rfl := Option.some.inj hq
      rw [k37]
      exact List.mem_of_getElem? (i := 20) rfl
    · subst z
      obtain rfl := Option.some.inj hsh
      cases hq
    · subst z
      obtain rfl := Option.some.inj hsh
      cases hq
    · subst z
      obtain rfl := Option.some.inj hsh
      obtain rfl := Option.some.inj hq
      rw [k40]
      exact List.mem_of_getElem? (i := 21) rfl
    · subst z
      obtain rfl := Option.some.inj hsh
      obtain rfl := Option.some.inj hq
      rw [k41]
      exact List.mem_of_getElem? (i := 22) rfl
    · subst z
      obtain rfl := Option.some.inj hsh
      cases hq
    · subst z
      obtain rfl := Option.some.inj hsh
      obtain rfl := Option.some.inj hq
      rw [k43]
      exact List.mem_of_getElem? (i := 23) rfl
    · subst z
      obtain rfl := Option.some.inj hsh
      obtain rfl := Option.some.inj hq
      rw [k44]
      exact List.mem_of_getElem? (i := 24) rfl
    · subst z
      obtain rfl := Option.some.inj hsh
      cases hq
    · subst z
      obtain rfl := Option.some.inj hsh
      obtain rfl := Option.some.inj hq
      rw [k46]
      exact List.mem_of_getElem? (i := 25) rfl
    · subst z
      obtain rfl := Option.some.inj hsh
      cases hq
    · subst z
      obtain rfl := Option.some.inj hsh
      obtain rfl := Option.some.inj hq
      rw [k48]
      exact List.mem_of_getElem? (i := 26) rfl
    · subst z
      obtain rfl := Option.some.inj hsh
      obtain rfl := Option.some.inj hq
      rw [k49]
      exact List.mem_of_getElem? (i := 27) rfl
    · subst z
      obtain rfl := Option.some.inj hsh
      obtain rfl := Option.some.inj hq
      rw [k50]
      exact List.mem_of_getElem? (i := 28) rfl
def g_M : Nat → Nat := lsAt [0, 1, 2, 3, 4, 5, 6, 7, 8, 9, 10, 11, 12, 13, 14, 15, 16, 17, 18, 19, 20, 21, 22]
theorem gi_M : ∀ i, i < 23 → ∀ j, j < 23 → g_M i = g_M j → i = j := by decide +kernel
set_option maxRecDepth 100000 in
set_option maxHeartbeats 8000000 in
theorem mk_M {h0 : Nat} {ws : va_W} {tys : ctK} (h : bk_X11 h0 ws tys) : ∃ (ad : Nat → Nat) (ca : Nat → ClassId) (g : Nat → Nat), ad 0 = h0 ∧ (∀ (k : Nat) (q : Nat × va_E), (am_world shM ad ca s0M)[k]? = some q → ws[g k]? = some q) ∧ (∀ i j, i < 23 → j < 23 → g i = g j → i = j) ∧ ∀ q ∈ am_tys shM ca, q ∈ tys := by
  obtain ⟨q0_16, c0_16, q1_16, c1_16, q2_16, c2_16, q3_16, c3_16, q4_16, c4_16, q5_16, c5_16, q6_16, c6_16, q7_16, c7_16, q8_16, c8_16, q9_16, c9_16, q10_16, c10_16, q11_16, c11_16, q12_16, c12_16, q13_16, c13_16, q14_16, c14_16, q15_16, c15_16, q16_16, c16_16, q17_16, c17_16, q18_16, c18_16, q19_16, c19_16, q20_16, c20_16, q21_16, c21_16, hw, ht⟩ := h
  simp only [ctA, ctB, List.nil_append, List.cons_append, List.append_nil, List.set_cons_succ, List.set_cons_zero] at hw ht
  obtain ⟨ad, had⟩ : ∃ f : Nat → Nat, f = lsAt [h0, q0_16, q1_16, q2_16, q3_16, q4_16, q5_16, q6_16, q7_16, q8_16, q9_16, q10_16, q11_16, q12_16, q13_16, q14_16, q15_16, q16_16, q17_16, q18_16, q19_16, q20_16, q21_16] := ⟨_, rfl⟩
  obtain ⟨ca, hca⟩ : ∃ f : Nat → Nat, f = lsAt [0, c0_16, c1_16, c2_16, c3_16, c4_16, c5_16, c6_16, c7_16, c8_16, c9_16, c10_16, c11_16, c12_16, c13_16, c14_16, c15_16, c16_16, c17_16, c18_16, c19_16, c20_16, c21_16] := ⟨_, rfl⟩
  have a0 : ad 0 = h0 := by rw [had]; rfl
  have a1 : ad 1 = q0_16 := by rw [had]; rfl
  have a2 : ad 2 = q1_16 := by rw [had]; rfl
  have a3 : ad 3 = q2_16 := by rw [had]; rfl
  have a4 : ad 4 = q3_16 := by rw [had]; rfl
  have a5 : ad 5 = q4_16 := by rw [had]; rfl
  have a6 : ad 6 = q5_16 := by rw [had]; rfl
  have a7 : ad 7 = q6_16 := by rw [had]; rfl
  have a8 : ad 8 = q7_16 := by rw [had]; rfl
  have a9 : ad 9 = q8_16 := by rw [had]; rfl
  have a10 : ad 10 = q9_16 := by rw [had]; rfl
  have a11 : ad 11 = q10_16 := by rw [had]; rfl
  have a12 : ad 12 = q11_16 := by rw [had]; rfl
  have a13 : ad 13 = q12_16 := by rw [had]; rfl
  have a14 : ad 14 = q13_16 := by rw [had]; rfl
  have a15 : ad 15 = q14_16 := by rw [had]; rfl
  have a16 : ad 16 = q15_16 := by rw [had]; rfl
  have a17 : ad 17 = q16_16 := by rw [had]; rfl
  have a18 : ad 18 = q17_16 := by rw [had]; rfl
  have a19 : ad 19 = q18_16 := by rw [had]; rfl
  have a20 : ad 20 = q19_16 := by rw [had]; rfl
  have a21 : ad 21 = q20_16 := by rw [had]; rfl
  have a22 : ad 22 = q21_16 := by rw [had]; rfl
  have k1 : ca 1 = c0_16 := by rw [hca]; rfl
  have k2 : ca 2 = c1_16 := by rw [hca]; rfl
  have k3 : ca 3 = c2_16 := by rw [hca]; rfl
  have k4 : ca 4 = c3_16 := by rw [hca]; rfl
  have k5 : ca 5 = c4_16 := by rw [hca]; rfl
  have k6 : ca 6 = c5_16 := by rw [hca]; rfl
  have k7 : ca 7 = c6_16 := by rw [hca]; rfl
  have k8 : ca 8 = c7_16 := by rw [hca]; rfl
  have k9 : ca 9 = c8_16 := by rw [hca]; rfl
  have k10 : ca 10 = c9_16 := by rw [hca]; rfl
  have k11 : ca 11 = c10_16 := by rw [hca]; rfl
  have k12 : ca 12 = c11_16 := by rw [hca]; rfl
  have k13 : ca 13 = c12_16 := by rw [hca]; rfl
  have k14 : ca 14 = c13_16 := by rw [hca]; rfl
  have k15 : ca 15 = c14_16 := by rw [hca]; rfl
  have k16 : ca 16 = c15_16 := by rw [hca]; rfl
  have k17 : ca 17 = c16_16 := by rw [hca]; rfl
  have k18 : ca 18 = c17_16 := by rw [hca]; rfl
  have k19 : ca 19 = c18_16 := by rw [hca]; rfl
  have k20 : ca 20 = c19_16 := by rw [hca]; rfl
  have k21 : ca 21 = c20_16 := by rw [hca]; rfl
  have k22 : ca 22 = c21_16 := by rw [hca]; rfl
  refine ⟨ad, ca, g_M, a0, ?_, fun i j hi hj => gi_M i hi j hj, ?_⟩
  · intro k q hq
    have hk : k < 23 := by have := (List.getElem?_eq_some_iff.mp hq).1; rw [am_world_len] at this; exact this
    rcases (show k = 0 ∨ k = 1 ∨ k = 2 ∨ k = 3 ∨ k = 4 ∨ k = 5 ∨ k = 6 ∨ k = 7 ∨ k = 8 ∨ k = 9 ∨ k = 10 ∨ k = 11 ∨ k = 12 ∨ k = 13 ∨ k = 14 ∨ k = 15 ∨ k = 16 ∨ k = 17 ∨ k = 18 ∨ k = 19 ∨ k = 20 ∨ k = 21 ∨ k = 22 by omega) with z | z | z | z | z | z | z | z | z | z | z | z | z | z | z | z | z | z | z | z | z | z | z
    · subst z
      rw [am_world_get (sh := .inr (11, [.ref 1, .ref 2, .ref 3, .int 0, .ref 4, .ref 5, .int 0, .int 0, .int 0, .int 0, .ref 6, .ref 7, .int 0, .ref 8, .ref 9, .ref 10, .ref 11, .ref 12, .int 0, .ref 13, .ref 14, .ref 15, .ref 16, .ref 17, .ref 18, .ref 19, .ref 20, .int 0, .int 0, .int 0, .ref 21, .ref 22, .long 0])) rfl] at hq
      obtain rfl := Option.some.inj hq
      rw [hw]
      show _ = some (ad 0, Sum.inr (_, am_fs ad s0M 0 _))
      rw [am_fs_fx]
      show _ = some (ad 0, Sum.inr (11, ([.ref (ad 1), .ref (ad 2), .ref (ad 3), .int (s0M.1 0 3), .ref (ad 4), .ref (ad 5), .int (s0M.1 0 6), .int (s0M.1 0 7), .int (s0M.1 0 8), .int (s0M.1 0 9), .ref (ad 6), .ref (ad 7), .int (s0M.1 0 12), .ref (ad 8), .ref (ad 9), .ref (ad 10), .ref (ad 11), .ref (ad 12), .int (s0M.1 0 18), .ref (ad 13), .ref (ad 14), .ref (ad 15), .ref (ad 16), .ref (ad 17), .ref (ad 18), .ref (ad 19), .ref (ad 20), .int (s0M.1 0 27), .int (s0M.1 0 28), .int (s0M.1 0 29), .ref (ad 21), .ref (ad 22), .long (s0M.2.2.1 0 32)] : List Value)))
      rw [a0, a1, a2, a3, a4, a5, a6, a7, a8, a9, a10, a11, a12, a13, a14, a15, a16, a17, a18, a19, a20, a21, a22]
      rfl
    · subst z
      rw [am_world_get (sh := .inl (38, .int, [])) rfl] at hq
      obtain rfl := Option.some.inj hq
      rw [hw]
      show _ = some (ad 1, Sum.inl (ca 1, _))
      rw [a1, k1]
      rfl
    · subst z
      rw [am_world_get (sh := .inl (38, .int, [])) rfl] at hq
      obtain rfl := Option.some.inj hq
      rw [hw]
      show _ = some (ad 2, Sum.inl (ca 2, _))
      rw [a2, k2]
      rfl
    · subst z
      rw [am_world_get (sh := .inl (228, .int, [])) rfl] at hq
      obtain rfl := Option.some.inj hq
      rw [hw]
      show _ = some (ad 3, Sum.inl (ca 3, _))
      rw [a3, k3]
      rfl
    · subst z
      rw [am_world_get (sh := .inl (3, .int, [])) rfl] at hq
      obtain rfl := Option.some.inj hq
      rw [hw]
      show _ = some (ad 4, Sum.inl (ca 4, _))
      rw [a4, k4]
      rfl
    · subst z
      rw [am_world_get (sh := .inl (100, .int, [])) rfl] at hq
      obtain rfl := Option.some.inj hq
      rw [hw]
      show _ = some (ad 5, Sum.inl (ca 5, _))
      rw [a5, k5]
      rfl
    · subst z
      rw [am_world_get (sh := .inl (512, .int, [])) rfl] at hq
      obtain rfl := Option.some.inj hq
      rw [hw]
      show _ = some (ad 6, Sum.inl (ca 6, _))
      rw [a6, k6]
      rfl
    · subst z
      rw [am_world_get (sh := .inl (36, .long, [])) rfl] at hq
      obtain rfl := Option.some.inj hq
      rw [hw]
      show _ = some (ad 7, Sum.inl (ca 7, _))
      rw [a7, k7]
      rfl
    · subst z
      rw [am_world_get (sh := .inl (400, .int, [])) rfl] at hq
      obtain rfl := Option.some.inj hq
      rw [hw]
      show _ = some (ad 8, Sum.inl (ca 8, _))
      rw [a8, k8]
      rfl
    · subst z
      rw [am_world_get (sh := .inl (400, .int, [])) rfl] at hq
      obtain rfl := Option.some.inj hq
      rw [hw]
      show _ = some (ad 9, Sum.inl (ca 9, _))
      rw [a9, k9]
      rfl
    · subst z
      rw [am_world_get (sh := .inl (9, .long, [])) rfl] at hq
      obtain rfl := Option.some.inj hq
      rw [hw]
      show _ = some (ad 10, Sum.inl (ca 10, _))
      rw [a10, k10]
      rfl
    · subst z
      rw [am_world_get (sh := .inl (9, .int, [])) rfl] at hq
      obtain rfl := Option.some.inj hq
      rw [hw]
      show _ = some (ad 11, Sum.inl (ca 11, _))
      rw [a11, k11]
      rfl
    · subst z
      rw [am_world_get (sh := .inl (20, .long, [])) rfl] at hq
      obtain rfl := Option.some.inj hq
      rw [hw]
      show _ = some (ad 12, Sum.inl (ca 12, _))
      rw [a12, k12]
      rfl
    · subst z
      rw [am_world_get (sh := .inl (4, .int, [])) rfl] at hq
      obtain rfl := Option.some.inj hq
      rw [hw]
      show _ = some (ad 13, Sum.inl (ca 13, _))
      rw [a13, k13]
      rfl
    · subst z
      rw [am_world_get (sh := .inl (512, .int, [])) rfl] at hq
      obtain rfl := Option.some.inj hq
      rw [hw]
      show _ = some (ad 14, Sum.inl (ca 14, _))
      rw [a14, k14]
      rfl
    · subst z
      rw [am_world_get (sh := .inl (512, .int, [])) rfl] at hq
      obtain rfl := Option.some.inj hq
      rw [hw]
      show _ = some (ad 15, Sum.inl (ca 15, _))
      rw [a15, k15]
      rfl
    · subst z
      rw [am_world_get (sh := .inl (512, .int, [])) rfl] at hq
      obtain rfl := Option.some.inj hq
      rw [hw]
      show _ = some (ad 16, Sum.inl (ca 16, _))
      rw [a16, k16]
      rfl
    · subst z
      rw [am_world_get (sh := .inl (512, .int, [])) rfl] at hq
      obtain rfl := Option.some.inj hq
      rw [hw]
      show _ = some (ad 17, Sum.inl (ca 17, _))
      rw [a17, k17]
      rfl
    · subst z
      rw [am_world_get (sh := .inl (512, .boolean, [])) rfl] at hq
      obtain rfl := Option.some.inj hq
      rw [hw]
      show _ = some (ad 18, Sum.inl (ca 18, _))
      rw [a18, k18]
      rfl
    · subst z
      rw [am_world_get (sh := .inl (5, .int, [])) rfl] at hq
      obtain rfl := Option.some.inj hq
      rw [hw]
      show _ = some (ad 19, Sum.inl (ca 19, _))
      rw [a19, k19]
      rfl
    · subst z
      rw [am_world_get (sh := .inl (512, .int, [])) rfl] at hq
      obtain rfl := Option.some.inj hq
      rw [hw]
      show _ = some (ad 20, Sum.inl (ca 20, _))
      rw [a20, k20]
      rfl
    · subst z
      rw [am_world_get (sh := .inl (50, .int, [])) rfl] at hq
      obtain rfl := Option.some.inj hq
      rw [hw]
      show _ = some (ad 21, Sum.inl (ca 21, _))
      rw [a21, k21]
      rfl
    · subst z
      rw [am_world_get (sh := .inl (200, .int, [])) rfl] at hq
      obtain rfl := Option.some.inj hq
      rw [hw]
      show _ = some (ad 22, Sum.inl (ca 22, _))
      rw [a22, k22]
      rfl
  · refine st_tys (fun id sh hsh q hq => ?_)
    have hk : id < 23 := (List.getElem?_eq_some_iff.mp hsh).1
    rw [ht]
    rcases (show id = 0 ∨ id = 1 ∨ id = 2 ∨ id = 3 ∨ id = 4 ∨ id = 5 ∨ id = 6 ∨ id = 7 ∨ id = 8 ∨ id = 9 ∨ id = 10 ∨ id = 11 ∨ id = 12 ∨ id = 13 ∨ id = 14 ∨ id = 15 ∨ id = 16 ∨ id = 17 ∨ id = 18 ∨ id = 19 ∨ id = 20 ∨ id = 21 ∨ id = 22 by omega) with z | z | z | z | z | z | z | z | z | z | z | z | z | z | z | z | z | z | z | z | z | z | z
    · subst z
      obtain rfl := Option.some.inj hsh
      cases hq
    · subst z
      obtain rfl := Option.some.inj hsh
      obtain rfl := Option.some.inj hq
      rw [k1]
      exact List.mem_of_getElem? (i := 0) rfl
    · subst z
      obtain rfl := Option.some.inj hsh
      obtain rfl := Option.some.inj hq
      rw [k2]
      exact List.mem_of_getElem? (i := 1) rfl
    · subst z
      obtain rfl := Option.some.inj hsh
      obtain rfl := Option.some.inj hq
      rw [k3]
      exact List.mem_of_getElem? (i := 2) rfl
    · subst z
      obtain rfl := Option.some.inj hsh
      obtain rfl := Option.some.inj hq
      rw [k4]
      exact List.mem_of_getElem? (i := 3) rfl
    · subst z
      obtain rfl := Option.some.inj hsh
      obtain rfl := Option.some.inj hq
      rw [k5]
      exact List.mem_of_getElem? (i := 4) rfl
    · subst z
      obtain rfl := Option.some.inj hsh
      obtain rfl := Option.some.inj hq
      rw [k6]
      exact List.mem_of_getElem? (i := 5) rfl
    · subst z
      obtain rfl := Option.some.inj hsh
      obtain rfl := Option.some.inj hq
      rw [k7]
      exact List.mem_of_getElem? (i := 6) rfl
    · subst z
      obtain rfl := Option.some.inj hsh
      obtain rfl := Option.some.inj hq
      rw [k8]
      exact List.mem_of_getElem? (i := 7) rfl
    · subst z
      obtain rfl := Option.some.inj hsh
      obtain rfl := Option.some.inj hq
      rw [k9]
      exact List.mem_of_getElem? (i := 8) rfl
    · subst z
      obtain rfl := Option.some.inj hsh
      obtain rfl := Option.some.inj hq
      rw [k10]
      exact List.mem_of_getElem? (i := 9) rfl
    · subst z
      obtain rfl := Option.some.inj hsh
      obtain rfl := Option.some.inj hq
      rw [k11]
      exact List.mem_of_getElem? (i := 10) rfl
    · subst z
      obtain rfl := Option.some.inj hsh
      obtain rfl := Option.some.inj hq
      rw [k12]
      exact List.mem_of_getElem? (i := 11) rfl
    · subst z
      obtain rfl := Option.some.inj hsh
      obtain rfl := Option.some.inj hq
      rw [k13]
      exact List.mem_of_getElem? (i := 12) rfl
    · subst z
      obtain rfl := Option.some.inj hsh
      obtain rfl := Option.some.inj hq
      rw [k14]
      exact List.mem_of_getElem? (i := 13) rfl
    · subst z
      obtain rfl := Option.some.inj hsh
      obtain rfl := Option.some.inj hq
      rw [k15]
      exact List.mem_of_getElem? (i := 14) rfl
    · subst z
      obtain rfl := Option.some.inj hsh
      obtain rfl := Option.some.inj hq
      rw [k16]
      exact List.mem_of_getElem? (i := 15) rfl
    · subst z
      obtain rfl := Option.some.inj hsh
      obtain rfl := Option.some.inj hq
      rw [k17]
      exact List.mem_of_getElem? (i := 16) rfl
    · subst z
      obtain rfl := Option.some.inj hsh
      obtain rfl := Option.some.inj hq
      rw [k18]
      exact List.mem_of_getElem? (i := 17) rfl
    · subst z
      obtain rfl := Option.some.inj hsh
      obtain rfl := Option.some.inj hq
      rw [k19]
      exact List.mem_of_getElem? (i := 18) rfl
    · subst z
      obtain rfl := Option.some.inj hsh
      obtain rfl := Option.some.inj hq
      rw [k20]
      exact List.mem_of_getElem? (i := 19) rfl
    · subst z
      obtain rfl := Option.some.inj hsh
      obtain rfl := Option.some.inj hq
      rw [k21]
      exact List.mem_of_getElem? (i := 20) rfl
    · subst z
      obtain rfl := Option.some.inj hsh
      obtain rfl := Option.some.inj hq
      rw [k22]
      exact List.mem_of_getElem? (i := 21) rfl
theorem ct_T.of {s : State} {args : Array Value} (hts : ∀ w ∈ lw_tbl, w.before args s = true) : ct_T s := by
  refine ⟨fun w hw hk => va_Nw.of (am_kw_on hk) (hts w hw), fun w hw hk => ?_⟩
  have h0 := hts w hw
  cases w with
  | methodLinkNest a i x b => exact va_Nw.of rfl h0
  | arrayClass t => exact ct_ac (Vm.Alike.refl _) h0
  | arrayOver t =>
    cases t with
    | object C => exact va_AO.of h0
    | _ => simp [ct_isX] at hk
  | _ => simp [ct_isX] at hk
theorem st_kn {s : State} {args : Array Value} (hts : ∀ w ∈ lw_tbl, w.before args s = true) : ∃ D : va_G, va_K D vwCl [] s := by
  have h1 : ∀ (k : Nat) (q : vw_C), vwCl[k]? = some q → ∃ (c : ClassId) (iS : Nat → Nat), u_Kn s q.1 q.2.1 q.2.2 c iS := by
    intro k q hq
    match k, hq with
    | 0, hq => cases hq; exact u_known hts in_X0 (hts (.instantiable RX0 6) (lm_t1 _ (List.mem_of_getElem? (i := 232) rfl)))
    | 1, hq => cases hq; exact u_known hts in_X1 (hts (.instantiable RX1 4) (lm_t1 _ (List.mem_of_getElem? (i := 26) rfl)))
    | 2, hq => cases hq; exact u_known hts in_X2 (hts (.instantiable RX2 4) (lm_t1 _ (List.mem_of_getElem? (i := 211) rfl)))
    | 3, hq => cases hq; exact u_known hts in_X3 (hts (.instantiable RX3 3) (lm_t1 _ (List.mem_of_getElem? (i := 139) rfl)))
    | 4, hq => cases hq; exact u_known hts in_X4 (hts (.instantiable RX4 2) (lm_t1 _ (List.mem_of_getElem? (i := 86) rfl)))
    | 5, hq => cases hq; exact u_known hts in_X5 (hts (.instantiable RX5 4) (lm_t1 _ (List.mem_of_getElem? (i := 66) rfl)))
    | 6, hq => cases hq; exact u_known hts in_X6 (hts (.instantiable RX6 8) (lm_t1 _ (List.mem_of_getElem? (i := 60) rfl)))
    | 7, hq => cases hq; exact u_known hts in_X7 (hts (.instantiable RX7 6) (lm_t1 _ (List.mem_of_getElem? (i := 186) rfl)))
    | 8, hq => cases hq; exact u_known hts in_X8 (hts (.instantiable RX8 6) (lm_t1 _ (List.mem_of_getElem? (i := 159) rfl)))
    | 9, hq => cases hq; exact u_known hts in_X9 (hts (.instantiable RX9 6) (lm_t2 _ (List.mem_of_getElem? (i := 19) rfl)))
    | 10, hq => cases hq; exact u_known hts in_X10 (hts (.instantiable RX10 14) (lm_t1 _ (List.mem_of_getElem? (i := 18) rfl)))
    | 11, hq => cases hq; exact u_known hts in_X11 (hts (.instantiable RX11 33) (lm_t4 _ (List.mem_of_getElem? (i := 111) rfl)))
    | k + 12, hq => simp [vwCl] at hq
  have h2 : ∀ k : Nat, ∃ (c : ClassId) (iS : Nat → Nat), ∀ q, vwCl[k]? = some q → u_Kn s q.1 q.2.1 q.2.2 c iS := by
    intro k
    cases e : vwCl[k]? with
    | none => exact ⟨(0 : Nat), fun _ => 0, fun q h => by cases h⟩
    | some q =>
      obtain ⟨c, iS, h⟩ := h1 k q e
      exact ⟨c, iS, fun q' h' => by cases h'; exact h⟩
  exact ⟨(fun k => Classical.choose (h2 k), fun k => Classical.choose (Classical.choose_spec (h2 k))), fun k q hq => Classical.choose_spec (Classical.choose_spec (h2 k)) q hq, fun k q h => by simp at h⟩
theorem st_inj {h : List amSh} {ad : Nat → Nat} {ca : Nat → ClassId} {S : amS} {A : Nat → Prop} (hD : va_D A (am_world h ad ca S)) : (∀ i j, i < h.length → j < h.length → ad i = ad j → i = j) ∧ ∀ q, am_A h ad q → A q := by
  have e : ∀ i, i < h.length → ∃ x, (am_world h ad ca S)[i]? = some (ad i, x) := fun i hi => ⟨_, am_world_get (sh := h[i]) (by simp [hi])⟩
  refine ⟨fun i j hi hj hij => ?_, ?_⟩
  · obtain ⟨x, hx⟩ := e i hi
    obtain ⟨y, hy⟩ := e j hj
    exact hD.1 i j _ _ hx hy hij
  · rintro q ⟨i, hi, rfl⟩
    obtain ⟨x, hx⟩ := e i hi
    exact hD.2 i _ hx
theorem st_appl {A : Nat → Prop} {w1 w2 : va_W} (hD : va_D A (w1 ++ w2)) : va_D A w1 := ⟨fun i j x y hi hj => hD.1 i j x y (by rw [List.getElem?_append_left (List.getElem?_eq_some_iff.mp hi).1]; exact hi) (by rw [List.getElem?_append_left (List.getElem?_eq_some_iff.mp hj).1]; exact hj), fun k x hx => hD.2 k x (by rw [List.getElem?_append_left (List.getElem?_eq_some_iff.mp hx).1]; exact hx)⟩
theorem st_appr {A : Nat → Prop} {w1 w2 : va_W} (hD : va_D A (w1 ++ w2)) : va_D A w2 := ⟨fun i j x y hi hj hxy => by
  have := hD.1 (w1.length + i) (w1.length + j) x y (by rw [List.getElem?_append_right (Nat.le_add_right _ _), Nat.add_sub_cancel_left]; exact hi) (by rw [List.getElem?_append_right (Nat.le_add_right _ _), Nat.add_sub_cancel_left]; exact hj) hxy
  omega, fun k x hx => hD.2 (w1.length + k) x (by rw [List.getElem?_append_right (Nat.le_add_right _ _), Nat.add_sub_cancel_left]; exact hx)⟩
set_option maxHeartbeats 4000000 in
set_option maxRecDepth 100000 in
/-- the law, from its entry -/
theorem whole_start {p : Program} {e : Env} {s : State} {m : MethodId} {below : List Frame} {meth : Method} {c : Code} (l : Launch) (hflags : l.flags = flags0) {b L : Nat} {xs : Nat → Int32} (hL : L ≤ 2560) (C0 : lw_At p s m meth c b L xs) : W p l e room_1 s m #[Value.ref b] below meth c s.heap [] 0 0 (lw_Z below #[Value.ref b] s) (entryFrame m ([Value.ref b] : List Value).toArray 4) := by
  obtain ⟨hx, hb, hr, hml, hown0, hts, hX, hbl, hlocks, hgv⟩ := id C0
  have hown : s.vm.findClass RL = some m.cls := hown0
  have hA : ∀ q : Nat, s.heap.size ≤ q → (fun q : Nat => s.heap.size ≤ q) q := fun _ h => h
  have hT := ct_T.of hts
  obtain ⟨D, hK⟩ := st_kn hts
  have hS : va_S (fun q : Nat => s.heap.size ≤ q) s.heap s.heap [] := va_S.rf
  have hP : va_P D vwCl [] s.heap := fun k q h => by simp at h
  have hD : va_D (fun q : Nat => s.heap.size ≤ q) [] := ⟨fun i j p q h => by simp at h, fun k q h => by simp at h⟩
  have hl := lv_entry ([.ref b]) (n := 4) (Nat.le_of_ble_eq_true rfl)
  rw [lg_entry_eq]
  generalize (lg_sl ([.ref b]) ++ List.replicate (4 - (lg_sl ([.ref b])).length) Slot.unset).toArray = ls at hl ⊢
  have hl : lv_has ls 4 [(0, .ref b)] := hl
  refine va_new (ci := 10) (fs := [.null, .null, .null, .null, .null, .null, .null, .null, .null, .int 0, .int 0, .int 0, .int 0, .int 0]) hx hb (hT.1.us in_X10 _) (fun _ h => h) tyX10 tyX10_ok hown (hts _ (lm_t1 _ (List.mem_of_getElem? (i := 17) rfl))) (hts _ (lm_t1 _ (List.mem_of_getElem? (i := 18) rfl))) (hts _ (lm_t1 _ (List.mem_of_getElem? (i := 1) rfl))) hK hP hD hS hA rfl df_X10 (Nat.le_of_ble_eq_true rfl) (Nat.le_of_ble_eq_true rfl) dL_law_0 (fun qx H hP hD hS => ?_)
  refine lv_dup hx hb dL_law_3 rfl ?_
  refine ct_after (w0 := []) (ct_run (As := []) (rest := [.ref qx]) (mc := 50) (ms := 5419) hx hb hml hown hT (ci_X10 D qx l) nvc_X10 (Or.inl (lm_t1 _ (List.mem_of_getElem? (i := 19) rfl))) (ct_app_r hP) (hK.sub [] rfl) rfl hl.1 ⟨Nat.le_of_ble_eq_true rfl, Nat.le_of_ble_eq_true rfl⟩ (Nat.le_of_ble_eq_true rfl) dL_law_4 ⟨Nat.le_of_ble_eq_true rfl, Nat.le_of_ble_eq_true rfl⟩) hS hP hD hA hK (fun blk t1 H locs hq hK hP hD hS => ?_)
  refine lv_astore_n (lv' := [(1, .ref qx), (0, .ref b)]) hx hb dL_law_7 rfl hl (by decide) rfl (fun ls hl => ?_)
  refine va_new (ci := 11) (fs := [.null, .null, .null, .int 0, .null, .null, .int 0, .int 0, .int 0, .int 0, .null, .null, .int 0, .null, .null, .null, .null, .null, .int 0, .null, .null, .null, .null, .null, .null, .null, .null, .int 0, .int 0, .int 0, .null, .null, .long 0]) hx hb (hT.1.us in_X11 _) (fun _ h => h) tyX11 tyX11_ok hown (hts _ (lm_t4 _ (List.mem_of_getElem? (i := 110) rfl))) (hts _ (lm_t4 _ (List.mem_of_getElem? (i := 111) rfl))) (hts _ (lm_t1 _ (List.mem_of_getElem? (i := 13) rfl))) hK hP hD hS hA rfl df_X11 (Nat.le_of_ble_eq_true rfl) (Nat.le_of_ble_eq_true rfl) dL_law_8 (fun qm H hP hD hS => ?_)
  refine lv_dup hx hb dL_law_11 rfl ?_
  refine ct_after (w0 := [] ++ blk) (ct_run (As := []) (rest := [.ref qm]) (mc := 22) (ms := 5124) hx hb hml hown hT (ci_X11 D qm l) nvc_X11 (Or.inl (lm_t4 _ (List.mem_of_getElem? (i := 112) rfl))) (ct_app_r hP) (hK.sub [] rfl) rfl hl.1 ⟨Nat.le_of_ble_eq_true rfl, Nat.le_of_ble_eq_true rfl⟩ (Nat.le_of_ble_eq_true rfl) dL_law_12 ⟨Nat.le_of_ble_eq_true rfl, Nat.le_of_ble_eq_true rfl⟩) hS hP hD hA hK (fun blk2 t2 H locs hq2 hK hP hD hS => ?_)
  refine lv_astore_n (lv' := [(2, .ref qm), (1, .ref qx), (0, .ref b)]) hx hb dL_law_15 rfl hl (by decide) rfl (fun ls hl => ?_)
  refine lv_iconst (v := nI 0) hx hb dL_law_16 (by decide +kernel) ?_
  refine lv_istore_n (lv' := [(3, .int (nI 0)), (2, .ref qm), (1, .ref qx), (0, .ref b)]) hx hb dL_law_17 rfl hl (by decide) rfl (fun ls hl => ?_)
  refine W.widen (k := 74) (n := 10590) (Nat.le_of_ble_eq_true rfl) (Nat.le_of_ble_eq_true rfl) ?_
  obtain ⟨adX, caX, gX, e1, e2, e3, e4⟩ := mk_X hq
  obtain ⟨adM, caM, gM, f1, f2, f3, f4⟩ := mk_M hq2
  have hP1 : va_P D vwCl (blk ++ blk2) H := hP
  have hD1 : va_D (fun q : Nat => s.heap.size ≤ q) (blk ++ blk2) := hD
  have hPX := (ct_app_l hP1).by gX e2
  have hPM := (ct_app_r hP1).by gM f2
  have hDX := (st_appl hD1).by gX e2 (by rw [am_world_len]; exact e3)
  have hDM := (st_appr hD1).by gM f2 (by rw [am_world_len]; exact f3)
  have hKX : va_K D vwCl (am_tys shX caX) s := st_K hK (fun q hq => List.mem_append_left _ (List.mem_append_right _ (e4 q hq)))
  have hKM : va_K D vwCl (am_tys shM caM) s := st_K hK (fun q hq => List.mem_append_right _ (f4 q hq))
  have hdis : ∀ i j, i < shX.length → j < shM.length → adX i ≠ adM j := by
    intro i j hi hj hij
    have g1 := e2 i _ (am_world_get (sh := shX[i]) (by simp [hi]))
    have g2 := f2 j _ (am_world_get (sh := shM[j]) (by simp [hj]))
    have hlt := (List.getElem?_eq_some_iff.mp g1).1
    have := hD1.1 (gX i) (blk.length + gM j) _ _ (by rw [List.getElem?_append_left hlt]; exact g1) (by rw [List.getElem?_append_right (Nat.le_add_right _ _), Nat.add_sub_cancel_left]; exact g2) hij
    omega
  have hz := z_loop (xs := xs) hL (L + 1) 0 s0X s0M (aSpace 3) [] [] 0 0 0 0 (i32 (-1)) (by omega) (by omega) c0X c0M
  have hl2 : lv_has ls 4 [(3, .int (nI (5 * 0))), (2, .ref (adM 0)), (1, .ref (adX 0)), (0, .ref b)] := by rw [e1, f1]; exact hl
  exact hz p l e s m below meth c b D adX caX adM caM H locs ls ⟨⟨hx, hb, hr, hml, hown, hT.1, hlocks⟩, ⟨hX, hbl⟩, ⟨hKX, st_inj hDX⟩, ⟨hKM, st_inj hDM⟩, hdis⟩ hl2 hPX hPM hS
