/-! CLASS AND REFERENCE AGREE, method by method -/
/-- both answer r, and hold the same behind it -/
def AgV (mx mm : amM) (av : List Value) (SX SM : amS) (B : Nat) (r : Value) : Prop :=
  ∃ (a : Ar) (hs : List Ar) (tx : List Nat) (u0 u1 u2 ck co : Int32), X shX mx 0 (am_ent mx.2.2.1 av) [] SX (fun v S' => v = some r ∧ xCore S' (B + 3000) a hs tx u0 u1 u2 ck co) ∧ X shM mm 0 (am_ent mm.2.2.1 av) [] SM (fun v S' => v = some r ∧ mCore S' a hs tx u0 u1 u2 ck co)
def AgI (mx mm : amM) (av : List Value) (SX SM : amS) (B : Nat) : Prop := ∃ r : Int32, AgV mx mm av SX SM B (.int r)
def AgL (mx mm : amM) (av : List Value) (SX SM : amS) (B : Nat) : Prop := ∃ r : Int64, AgV mx mm av SX SM B (.long r)
theorem ag_c {mx mm : amM} {av : List Value} {SX SM : amS} {B : Nat} {r : Value} {a : Ar} {hs : List Ar} {tx : List Nat} {u0 u1 u2 ck co : Int32} (h1 : X shX mx 0 (am_ent mx.2.2.1 av) [] SX (fun v S' => v = some r ∧ xCore S' (B + 3000) a hs tx u0 u1 u2 ck co)) (h2 : X shM mm 0 (am_ent mm.2.2.1 av) [] SM (fun v S' => v = some r ∧ mCore S' a hs tx u0 u1 u2 ck co)) : AgV mx mm av SX SM B r := ⟨a, hs, tx, u0, u1, u2, ck, co, h1, h2⟩
theorem ag_q {mx mm : amM} {av : List Value} {SX SM : amS} {B : Nat} {r : Value} {a : Ar} {hs : List Ar} {tx : List Nat} {u0 u1 u2 ck co : Int32} (h1 : X shX mx 0 (am_ent mx.2.2.1 av) [] SX (fun v S' => v = some r ∧ xCore S' B a hs tx u0 u1 u2 ck co)) (h2 : X shM mm 0 (am_ent mm.2.2.1 av) [] SM (fun v S' => v = some r ∧ mCore S' a hs tx u0 u1 u2 ck co)) : AgV mx mm av SX SM B r := ⟨a, hs, tx, u0, u1, u2, ck, co, x_mono (fun _ _ q => ⟨q.1, q.2.mono (Nat.le_add_right _ _)⟩) h1, h2⟩
theorem ag_m1 {x : Int32} (h : ¬ x < i32 (-1)) : x = i32 (-1) ∨ ∃ k, k < 2 ^ 31 ∧ x = nI k := by
  rcases Int.lt_or_le x.toInt 0 with h0 | h0
  · left
    rw [Int32.lt_iff_toInt_lt, i32_toInt (by decide) (by decide)] at h
    rw [i32_of x, show x.toInt = -1 by omega]
  · right
    exact nI_of (fun q => by rw [Int32.lt_iff_toInt_lt, Int32.toInt_zero] at q; omega)
theorem ag_lt2 {k : Nat} (h : k < 2) : k = 0 ∨ k = 1 := by omega
section AG
variable {SX SM : amS} {B : Nat} {a : Ar} {hs : List Ar} {tx : List Nat} {u0 u1 u2 ck co : Int32}
theorem ag_space (hX : xCore SX B a hs tx u0 u1 u2 ck co) (hM : mCore SM a hs tx u0 u1 u2 ck co) (hB : B + 1 < 2147483648) (x0 : Int32) : AgI mX10_space mX11_space [.ref 0, .int x0] SX SM B := by
  by_cases h : ∃ n, 2 ≤ n ∧ n ≤ 4 ∧ x0 = nI n
  · obtain ⟨n, h2, h4, rfl⟩ := h
    exact ⟨_, ag_c (kx_space_ok SX B a hs tx u0 u1 u2 ck co hX n h2 h4) (k_space_ok SM a hs tx u0 u1 u2 ck co hM n h2 h4)⟩
  · exact ⟨_, ag_q (kx_space_bad SX B a hs tx u0 u1 u2 ck co hX x0 h) (k_space_bad SM a hs tx u0 u1 u2 ck co hM x0 h)⟩
theorem ag_plane (hX : xCore SX B a hs tx u0 u1 u2 ck co) (hM : mCore SM a hs tx u0 u1 u2 ck co) (hB : B + 1 < 2147483648) (x0 x1 x2 x3 : Int32) : AgI mX10_plane mX11_plane [.ref 0, .int x0, .int x1, .int x2, .int x3] SX SM B := by
  by_cases h : plOK a.1 (q4 x0 x1 x2 x3)
  · by_cases hn : ∃ i, i < a.2.1 ∧ same (a.2.2 i) (plR (q4 x0 x1 x2 x3))
    · exact ⟨_, ag_q (kx_plane_no SX B a hs tx u0 u1 u2 ck co hX x0 x1 x2 x3 h hn) (k_plane_no SM a hs tx u0 u1 u2 ck co hM x0 x1 x2 x3 h hn)⟩
    · have hn2 : ∀ i, i < a.2.1 → ¬ same (a.2.2 i) (plR (q4 x0 x1 x2 x3)) := fun i hi z => hn ⟨i, hi, z⟩
      by_cases h9 : a.2.1 = 9
      · exact ⟨_, ag_q (kx_plane_full SX B a hs tx u0 u1 u2 ck co hX x0 x1 x2 x3 h hn2 h9) (k_plane_full SM a hs tx u0 u1 u2 ck co hM x0 x1 x2 x3 h hn2 h9)⟩
      · have hN := hX.1.1.2.2.1
        exact ⟨_, ag_c (kx_plane_ok SX B a hs tx u0 u1 u2 ck co hX x0 x1 x2 x3 h hn2 (by omega)) (k_plane_ok SM a hs tx u0 u1 u2 ck co hM x0 x1 x2 x3 h hn2 (by omega))⟩
  · exact ⟨_, ag_q (kx_plane_bad SX B a hs tx u0 u1 u2 ck co hX x0 x1 x2 x3 h) (k_plane_bad SM a hs tx u0 u1 u2 ck co hM x0 x1 x2 x3 h)⟩
theorem ag_turns (hX : xCore SX B a hs tx u0 u1 u2 ck co) (hM : mCore SM a hs tx u0 u1 u2 ck co) (hB : B + 1 < 2147483648) (x0 : Int32) : AgI mX10_turns mX11_turns [.ref 0, .int x0] SX SM B := by
  by_cases h : InR x0 a.2.1
  · obtain ⟨i, hi, rfl⟩ := h
    exact ⟨_, ag_c (kx_turns_ok SX B a hs tx u0 u1 u2 ck co hX hB i hi) (k_turns_ok SM a hs tx u0 u1 u2 ck co hM i hi)⟩
  · exact ⟨_, ag_q (kx_turns_bad SX B a hs tx u0 u1 u2 ck co hX x0 h) (k_turns_bad SM a hs tx u0 u1 u2 ck co hM x0 h)⟩
theorem ag_drops (hX : xCore SX B a hs tx u0 u1 u2 ck co) (hM : mCore SM a hs tx u0 u1 u2 ck co) (hB : B + 1 < 2147483648) (x0 : Int32) : AgI mX10_drops mX11_drops [.ref 0, .int x0] SX SM B := by
  by_cases h : InR x0 a.2.1
  · obtain ⟨i, hi, rfl⟩ := h
    exact ⟨_, ag_c (kx_drops_ok SX B a hs tx u0 u1 u2 ck co hX i hi) (k_drops_ok SM a hs tx u0 u1 u2 ck co hM i hi)⟩
  · exact ⟨_, ag_q (kx_drops_bad SX B a hs tx u0 u1 u2 ck co hX x0 h) (k_drops_bad SM a hs tx u0 u1 u2 ck co hM x0 h)⟩
theorem ag_swaps (hX : xCore SX B a hs tx u0 u1 u2 ck co) (hM : mCore SM a hs tx u0 u1 u2 ck co) (hB : B + 1 < 2147483648) (x0 x1 : Int32) : AgI mX10_swaps mX11_swaps [.ref 0, .int x0, .int x1] SX SM B := by
  by_cases h : InR x0 a.2.1 ∧ InR x1 a.2.1 ∧ x0 ≠ x1
  · obtain ⟨⟨i, hi, rfl⟩, ⟨j, hj, rfl⟩, hne⟩ := h
    exact ⟨_, ag_c (kx_swaps_ok SX B a hs tx u0 u1 u2 ck co hX hB i j hi hj (fun z => hne (by rw [z]))) (k_swaps_ok SM a hs tx u0 u1 u2 ck co hM i j hi hj (fun z => hne (by rw [z])))⟩
  · exact ⟨_, ag_q (kx_swaps_bad SX B a hs tx u0 u1 u2 ck co hX x0 x1 h) (k_swaps_bad SM a hs tx u0 u1 u2 ck co hM x0 x1 h)⟩
theorem ag_makes (hX : xCore SX B a hs tx u0 u1 u2 ck co) (hM : mCore SM a hs tx u0 u1 u2 ck co) (hB : B + 1 < 2147483648) (x0 : Int32) : AgI mX10_makes mX11_makes [.ref 0, .int x0] SX SM B := by
  by_cases h : InR x0 4
  · obtain ⟨i, hi, rfl⟩ := h
    exact ⟨_, ag_c (kx_makes_ok SX B a hs tx u0 u1 u2 ck co hX i hi) (k_makes_ok SM a hs tx u0 u1 u2 ck co hM i hi)⟩
  · exact ⟨_, ag_q (kx_makes_bad SX B a hs tx u0 u1 u2 ck co hX x0 h) (k_makes_bad SM a hs tx u0 u1 u2 ck co hM x0 h)⟩
theorem ag_of (hX : xCore SX B a hs tx u0 u1 u2 ck co) (hM : mCore SM a hs tx u0 u1 u2 ck co) (hB : B + 1 < 2147483648) (x0 x1 : Int32) : AgI mX10_of mX11_of [.ref 0, .int x0, .int x1] SX SM B := by
  by_cases h : InR x0 a.2.1 ∧ InR x1 a.1
  · obtain ⟨⟨i, hi, rfl⟩, ⟨j, hj, rfl⟩⟩ := h
    exact ⟨_, ag_q (kx_of_ok SX B a hs tx u0 u1 u2 ck co hX i j hi hj) (k_of_ok SM a hs tx u0 u1 u2 ck co hM i j hi hj)⟩
  · exact ⟨_, ag_q (kx_of_bad SX B a hs tx u0 u1 u2 ck co hX x0 x1 h) (k_of_bad SM a hs tx u0 u1 u2 ck co hM x0 x1 h)⟩
theorem ag_rank (hX : xCore SX B a hs tx u0 u1 u2 ck co) (hM : mCore SM a hs tx u0 u1 u2 ck co) (hB : B + 1 < 2147483648) (x0 : Int32) : AgI mX10_rank mX11_rank [.ref 0, .int x0] SX SM B := by
  by_cases h : InR x0 (2 ^ a.2.1)
  · obtain ⟨s, hs0, rfl⟩ := h
    exact ⟨_, ag_q (kx_rank_ok SX B a hs tx u0 u1 u2 ck co hX (Nat.lt_of_succ_lt hB) s hs0) (k_rank_ok SM a hs tx u0 u1 u2 ck co hM s hs0)⟩
  · exact ⟨_, ag_q (kx_rank_bad SX B a hs tx u0 u1 u2 ck co hX x0 h) (k_rank_bad SM a hs tx u0 u1 u2 ck co hM x0 h)⟩
theorem ag_closed (hX : xCore SX B a hs tx u0 u1 u2 ck co) (hM : mCore SM a hs tx u0 u1 u2 ck co) (hB : B + 1 < 2147483648) (x0 : Int32) : AgI mX10_closed mX11_closed [.ref 0, .int x0] SX SM B := by
  by_cases h : InR x0 (2 ^ a.2.1)
  · obtain ⟨s, hs0, rfl⟩ := h
    exact ⟨_, ag_q (kx_closed_ok SX B a hs tx u0 u1 u2 ck co hX (Nat.lt_of_succ_lt hB) s hs0) (k_closed_ok SM a hs tx u0 u1 u2 ck co hM s hs0)⟩
  · exact ⟨_, ag_q (kx_closed_bad SX B a hs tx u0 u1 u2 ck co hX x0 h) (k_closed_bad SM a hs tx u0 u1 u2 ck co hM x0 h)⟩
theorem ag_flats (hX : xCore SX B a hs tx u0 u1 u2 ck co) (hM : mCore SM a hs tx u0 u1 u2 ck co) (hB : B + 1 < 2147483648) (x0 x1 : Int32) : AgI mX10_flats mX11_flats [.ref 0, .int x0, .int x1] SX SM B := by
  by_cases h : InR x0 5 ∧ ¬ x1 < i32 (-1)
  · obtain ⟨⟨k, hk, rfl⟩, h1⟩ := h
    exact ⟨_, ag_q (kx_flats_ok SX B a hs tx u0 u1 u2 ck co hX (Nat.lt_of_succ_lt hB) k hk x1 h1) (k_flats_ok SM a hs tx u0 u1 u2 ck co hM k hk x1 h1)⟩
  · exact ⟨_, ag_q (kx_flats_bad SX B a hs tx u0 u1 u2 ck co hX x0 x1 h) (k_flats_bad SM a hs tx u0 u1 u2 ck co hM x0 x1 h)⟩
theorem ag_base (hX : xCore SX B a hs tx u0 u1 u2 ck co) (hM : mCore SM a hs tx u0 u1 u2 ck co) (hB : B + 1 < 2147483648) (x0 x1 : Int32) : AgI mX10_base mX11_base [.ref 0, .int x0, .int x1] SX SM B := by
  by_cases h : InR x0 5 ∧ ¬ x1 < i32 (-1)
  · obtain ⟨⟨k, hk, rfl⟩, h1⟩ := h
    exact ⟨_, ag_q (kx_base_ok SX B a hs tx u0 u1 u2 ck co hX (Nat.lt_of_succ_lt hB) k hk x1 h1) (k_base_ok SM a hs tx u0 u1 u2 ck co hM k hk x1 h1)⟩
  · exact ⟨_, ag_q (kx_base_bad SX B a hs tx u0 u1 u2 ck co hX x0 x1 h) (k_base_bad SM a hs tx u0 u1 u2 ck co hM x0 x1 h)⟩
theorem ag_sign (hX : xCore SX B a hs tx u0 u1 u2 ck co) (hM : mCore SM a hs tx u0 u1 u2 ck co) (hB : B + 1 < 2147483648) (x0 : Int32) : AgI mX10_sign mX11_sign [.ref 0, .int x0] SX SM B := by
  by_cases h : InR x0 (2 ^ a.2.1)
  · obtain ⟨s, hs0, rfl⟩ := h
    cases hfl : flB (rkV a.2.2) a.2.1 s with
    | false => exact ⟨_, ag_q (kx_sign_no SX B a hs tx u0 u1 u2 ck co hX (Nat.lt_of_succ_lt hB) s hs0 hfl) (k_sign_no SM a hs tx u0 u1 u2 ck co hM s hs0 hfl)⟩
    | true => exact ⟨_, ag_q (kx_sign_ok SX B a hs tx u0 u1 u2 ck co hX (Nat.lt_of_succ_lt hB) s hs0 hfl) (x_mono (fun v S' z => by
        obtain ⟨g, h1, h2, h3⟩ := z
        rw [sg_eq hX.1.1 hs0 hfl h3] at h1
        exact ⟨h1, h2⟩) (k_sign_ok0 SM a hs tx u0 u1 u2 ck co hM s hs0 hfl))⟩
  · exact ⟨_, ag_q (kx_sign_bad SX B a hs tx u0 u1 u2 ck co hX x0 h) (k_sign_bad SM a hs tx u0 u1 u2 ck co hM x0 h)⟩
theorem ag_rings (hX : xCore SX B a hs tx u0 u1 u2 ck co) (hM : mCore SM a hs tx u0 u1 u2 ck co) (hB : B + 1 < 2147483648) (x0 : Int32) : AgI mX10_rings mX11_rings [.ref 0, .int x0] SX SM B := by
  by_cases h : x0 < i32 (-1)
  · exact ⟨_, ag_q (kx_rings_bad SX B a hs tx u0 u1 u2 ck co hX x0 h) (k_rings_bad SM a hs tx u0 u1 u2 ck co hM x0 h)⟩
  · rcases ag_m1 h with z | ⟨k, hk, z⟩
    · subst z
      exact ⟨_, ag_q (kx_rings_ok SX B a hs tx u0 u1 u2 ck co hX (Nat.lt_of_succ_lt hB) (i32 (-1)) h) (k_rings_cnt SM a hs tx u0 u1 u2 ck co hM )⟩
    · subst z
      exact ⟨_, ag_q (kx_rings_ok SX B a hs tx u0 u1 u2 ck co hX (Nat.lt_of_succ_lt hB) (nI k) h) (k_rings_at SM a hs tx u0 u1 u2 ck co hM k hk)⟩
theorem ag_factor (hX : xCore SX B a hs tx u0 u1 u2 ck co) (hM : mCore SM a hs tx u0 u1 u2 ck co) (hB : B + 1 < 2147483648) (x0 x1 : Int32) : AgI mX10_factor mX11_factor [.ref 0, .int x0, .int x1] SX SM B := by
  by_cases h : ¬ x0 < 0 ∧ InR x1 a.2.1
  · obtain ⟨h0, ⟨i, hi, rfl⟩⟩ := h
    obtain ⟨k, hk, rfl⟩ := nI_of h0
    rcases Nat.lt_or_ge k (ringsB a.2.2 a.2.1 5).length with hl | hl
    · have hkc : (ringsB a.2.2 a.2.1 5)[k]? = some (ringsB a.2.2 a.2.1 5)[k] := by simp [hl]
      exact ⟨_, ag_q (kx_factor_ok SX B a hs tx u0 u1 u2 ck co hX (Nat.lt_of_succ_lt hB) k i _ hk hi hkc) (k_factor_ok SM a hs tx u0 u1 u2 ck co hM k i _ hk hi hkc)⟩
    · exact ⟨_, ag_q (kx_factor_no SX B a hs tx u0 u1 u2 ck co hX (Nat.lt_of_succ_lt hB) k i hk hi hl) (k_factor_no SM a hs tx u0 u1 u2 ck co hM k i hk hi hl)⟩
  · exact ⟨_, ag_q (kx_factor_bad SX B a hs tx u0 u1 u2 ck co hX x0 x1 h) (k_factor_bad SM a hs tx u0 u1 u2 ck co hM x0 x1 h)⟩
theorem ag_polynomial (hX : xCore SX B a hs tx u0 u1 u2 ck co) (hM : mCore SM a hs tx u0 u1 u2 ck co) (hB : B + 1 < 2147483648) (x0 x1 : Int32) : AgI mX10_polynomial mX11_polynomial [.ref 0, .int x0, .int x1] SX SM B := by
  by_cases h : InR x0 (2 ^ a.2.1) ∧ InR x1 5
  · obtain ⟨⟨s, hs0, rfl⟩, ⟨j, hj, rfl⟩⟩ := h
    exact ⟨_, ag_q (kx_polynomial_ok SX B a hs tx u0 u1 u2 ck co hX (Nat.lt_of_succ_lt hB) s hs0 j hj) (k_polynomial_ok SM a hs tx u0 u1 u2 ck co hM s j hs0 hj)⟩
  · exact ⟨_, ag_q (kx_polynomial_bad SX B a hs tx u0 u1 u2 ck co hX x0 x1 h) (k_polynomial_bad SM a hs tx u0 u1 u2 ck co hM x0 x1 h)⟩
theorem ag_value (hX : xCore SX B a hs tx u0 u1 u2 ck co) (hM : mCore SM a hs tx u0 u1 u2 ck co) (hB : B + 1 < 2147483648) (x0 : Int32) : AgI mX10_value mX11_value [.ref 0, .int x0] SX SM B := by
  by_cases h : decide (i32 (-9) ≤ x0 ∧ x0 ≤ nI 9) = true
  · exact ⟨_, ag_q (kx_value_ok SX B a hs tx u0 u1 u2 ck co hX (Nat.lt_of_succ_lt hB) x0 h) (k_value_ok SM a hs tx u0 u1 u2 ck co hM x0 h)⟩
  · exact ⟨_, ag_q (kx_value_bad SX B a hs tx u0 u1 u2 ck co hX x0 h) (k_value_bad SM a hs tx u0 u1 u2 ck co hM x0 h)⟩
theorem ag_within (hX : xCore SX B a hs tx u0 u1 u2 ck co) (hM : mCore SM a hs tx u0 u1 u2 ck co) (hB : B + 1 < 2147483648) (x0 x1 : Int32) : AgI mX10_within mX11_within [.ref 0, .int x0, .int x1] SX SM B := by
  by_cases h : InR x0 a.2.1 ∧ InR x1 4
  · obtain ⟨⟨i, hi, rfl⟩, ⟨j, hj, rfl⟩⟩ := h
    exact ⟨_, ag_q (kx_within_ok SX B a hs tx u0 u1 u2 ck co hX (Nat.lt_of_succ_lt hB) i j hi hj) (k_within_ok SM a hs tx u0 u1 u2 ck co hM i j hi hj)⟩
  · exact ⟨_, ag_q (kx_within_bad SX B a hs tx u0 u1 u2 ck co hX x0 x1 h) (k_within_bad SM a hs tx u0 u1 u2 ck co hM x0 x1 h)⟩
theorem ag_parts (hX : xCore SX B a hs tx u0 u1 u2 ck co) (hM : mCore SM a hs tx u0 u1 u2 ck co) (hB : B + 1 < 2147483648) (x0 : Int32) : AgI mX10_parts mX11_parts [.ref 0, .int x0] SX SM B := by
  by_cases h : x0 < i32 (-1)
  · exact ⟨_, ag_q (kx_parts_bad SX B a hs tx u0 u1 u2 ck co hX x0 h) (k_parts_bad SM a hs tx u0 u1 u2 ck co hM x0 h)⟩
  · rcases ag_m1 h with z | ⟨k, hk, z⟩
    · subst z
      exact ⟨_, ag_q (kx_parts_cnt SX B a hs tx u0 u1 u2 ck co hX (Nat.lt_of_succ_lt hB) ) (k_parts_cnt SM a hs tx u0 u1 u2 ck co hM )⟩
    · subst z
      exact ⟨_, ag_q (kx_parts_at SX B a hs tx u0 u1 u2 ck co hX (Nat.lt_of_succ_lt hB) k hk) (k_parts_at SM a hs tx u0 u1 u2 ck co hM k hk)⟩
theorem ag_walls (hX : xCore SX B a hs tx u0 u1 u2 ck co) (hM : mCore SM a hs tx u0 u1 u2 ck co) (hB : B + 1 < 2147483648) (x0 : Int32) : AgI mX10_walls mX11_walls [.ref 0, .int x0] SX SM B := by
  by_cases h : InR x0 (2 ^ a.2.1)
  · obtain ⟨s, hs0, rfl⟩ := h
    cases hp : ptB a.2.2 a.2.1 s with
    | false => exact ⟨_, ag_q (kx_walls_no SX B a hs tx u0 u1 u2 ck co hX (Nat.lt_of_succ_lt hB) s hs0 hp) (k_walls_no SM a hs tx u0 u1 u2 ck co hM s hs0 hp)⟩
    | true => exact ⟨_, ag_q (kx_walls_ok SX B a hs tx u0 u1 u2 ck co hX (Nat.lt_of_succ_lt hB) s hs0 hp) (k_walls_ok SM a hs tx u0 u1 u2 ck co hM s hs0 hp)⟩
  · exact ⟨_, ag_q (kx_walls_bad SX B a hs tx u0 u1 u2 ck co hX x0 h) (k_walls_bad SM a hs tx u0 u1 u2 ck co hM x0 h)⟩
theorem ag_way (hX : xCore SX B a hs tx u0 u1 u2 ck co) (hM : mCore SM a hs tx u0 u1 u2 ck co) (hB : B + 1 < 2147483648) (x0 x1 x2 : Int32) : AgI mX10_way mX11_way [.ref 0, .int x0, .int x1, .int x2] SX SM B := by
  by_cases h : InR x0 (2 ^ a.2.1) ∧ InR x1 (2 ^ a.2.1) ∧ InR x2 2
  · obtain ⟨⟨f, hf, rfl⟩, ⟨t, ht, rfl⟩, ⟨k, hk, rfl⟩⟩ := h
    by_cases hp : ptB a.2.2 a.2.1 f = true ∧ ptB a.2.2 a.2.1 t = true
    · rcases ag_lt2 hk with z | z
      · subst z
        exact ⟨_, ag_q (kx_way_0 SX B a hs tx u0 u1 u2 ck co hX (Nat.lt_of_succ_lt hB) f t hf ht hp.1 hp.2) (k_way_0 SM a hs tx u0 u1 u2 ck co hM f t hf ht hp.1 hp.2)⟩
      · subst z
        exact ⟨_, ag_q (kx_way_1 SX B a hs tx u0 u1 u2 ck co hX (Nat.lt_of_succ_lt hB) f t hf ht hp.1 hp.2) (k_way_1 SM a hs tx u0 u1 u2 ck co hM f t hf ht hp.1 hp.2)⟩
    · exact ⟨_, ag_q (kx_way_no SX B a hs tx u0 u1 u2 ck co hX (Nat.lt_of_succ_lt hB) f t k hf ht hk hp) (k_way_no SM a hs tx u0 u1 u2 ck co hM f t k hf ht hk hp)⟩
  · exact ⟨_, ag_q (kx_way_bad SX B a hs tx u0 u1 u2 ck co hX x0 x1 x2 h) (k_way_bad SM a hs tx u0 u1 u2 ck co hM x0 x1 x2 h)⟩
theorem ag_chain (hX : xCore SX B a hs tx u0 u1 u2 ck co) (hM : mCore SM a hs tx u0 u1 u2 ck co) (hB : B + 1 < 2147483648) (x0 x1 : Int32) : AgI mX10_chain mX11_chain [.ref 0, .int x0, .int x1] SX SM B := by
  by_cases h : ¬ x0 < 0 ∧ InR x1 2
  · obtain ⟨h0, ⟨k, hk, rfl⟩⟩ := h
    obtain ⟨i, hi, rfl⟩ := nI_of h0
    cases hgo : goX (rkV a.2.2) a.2.1 (rkV a.2.2 (2 ^ a.2.1 - 1)) (rkV a.2.2 (2 ^ a.2.1 - 1)) 0 with
    | false => exact ⟨_, ag_q (kx_chain_no SX B a hs tx u0 u1 u2 ck co hX (Nat.lt_of_succ_lt hB) i k hi hk hgo) (k_chain_no SM a hs tx u0 u1 u2 ck co hM i k hi hk hgo)⟩
    | true =>
      rcases Nat.eq_zero_or_pos i with z | z
      · subst z
        exact ⟨_, ag_q (kx_chain_0 SX B a hs tx u0 u1 u2 ck co hX (Nat.lt_of_succ_lt hB) k hk hgo) (k_chain_0 SM a hs tx u0 u1 u2 ck co hM k hk hgo)⟩
      · rcases Nat.lt_or_ge (rkV a.2.2 (2 ^ a.2.1 - 1)) i with hgt | hle
        · exact ⟨_, ag_q (kx_chain_gt SX B a hs tx u0 u1 u2 ck co hX (Nat.lt_of_succ_lt hB) i k hi hk hgo hgt) (k_chain_gt SM a hs tx u0 u1 u2 ck co hM i k hi hk hgo hgt)⟩
        · rcases ag_lt2 hk with y | y
          · subst y
            exact ⟨_, ag_q (kx_chain_i0 SX B a hs tx u0 u1 u2 ck co hX (Nat.lt_of_succ_lt hB) i hgo z hle) (k_chain_i0 SM a hs tx u0 u1 u2 ck co hM i hgo z hle)⟩
          · subst y
            exact ⟨_, ag_q (kx_chain_i1 SX B a hs tx u0 u1 u2 ck co hX (Nat.lt_of_succ_lt hB) i hgo z hle) (k_chain_i1 SM a hs tx u0 u1 u2 ck co hM i hgo z hle)⟩
  · exact ⟨_, ag_q (kx_chain_bad SX B a hs tx u0 u1 u2 ck co hX x0 x1 h) (k_chain_bad SM a hs tx u0 u1 u2 ck co hM x0 x1 h)⟩
theorem ag_even (hX : xCore SX B a hs tx u0 u1 u2 ck co) (hM : mCore SM a hs tx u0 u1 u2 ck co) (hB : B + 1 < 2147483648) (x0 : Int32) : AgI mX10_even mX11_even [.ref 0, .int x0] SX SM B := by
  by_cases h : InR x0 5
  · obtain ⟨k, hk, rfl⟩ := h
    exact ⟨_, ag_q (kx_even_ok SX B a hs tx u0 u1 u2 ck co hX (Nat.lt_of_succ_lt hB) k hk) (k_even_ok SM a hs tx u0 u1 u2 ck co hM k hk)⟩
  · exact ⟨_, ag_q (kx_even_bad SX B a hs tx u0 u1 u2 ck co hX x0 h) (k_even_bad SM a hs tx u0 u1 u2 ck co hM x0 h)⟩
theorem ag_places (hX : xCore SX B a hs tx u0 u1 u2 ck co) (hM : mCore SM a hs tx u0 u1 u2 ck co) (hB : B + 1 < 2147483648) (x0 x1 : Int32) : AgI mX10_places mX11_places [.ref 0, .int x0, .int x1] SX SM B := by
  by_cases h : (x0 = nI 2 ∨ x0 = nI 3 ∨ x0 = nI 5 ∨ x0 = nI 7) ∧ InR x1 2
  · obtain ⟨h1, ⟨k, hk, rfl⟩⟩ := h
    obtain ⟨p, hp, rfl⟩ : ∃ p : Nat, (p = 2 ∨ p = 3 ∨ p = 5 ∨ p = 7) ∧ x0 = nI p := by
      rcases h1 with z | z | z | z
      · exact ⟨2, Or.inl rfl, z⟩
      · exact ⟨3, Or.inr (Or.inl rfl), z⟩
      · exact ⟨5, Or.inr (Or.inr (Or.inl rfl)), z⟩
      · exact ⟨7, Or.inr (Or.inr (Or.inr rfl)), z⟩
    rcases ag_lt2 hk with z | z
    · subst z
      have e := (kx_places_00 SX B a hs tx u0 u1 u2 ck co hX (Nat.lt_of_succ_lt hB) p hp)
      rw [cfN_eq hp] at e
      exact ⟨_, ag_q e (k_places_0 SM a hs tx u0 u1 u2 ck co hM p hp)⟩
    · subst z
      have e := (kx_places_10 SX B a hs tx u0 u1 u2 ck co hX (Nat.lt_of_succ_lt hB) p hp)
      rw [← good_eq hX.1.1 hp] at e
      exact ⟨_, ag_q e (k_places_1 SM a hs tx u0 u1 u2 ck co hM p hp)⟩
  · exact ⟨_, ag_q (kx_places_bad SX B a hs tx u0 u1 u2 ck co hX x0 x1 h) (k_places_bad SM a hs tx u0 u1 u2 ck co hM x0 x1 h)⟩
theorem ag_form (hX : xCore SX B a hs tx u0 u1 u2 ck co) (hM : mCore SM a hs tx u0 u1 u2 ck co) (hB : B + 1 < 2147483648) (x0 x1 : Int32) : AgI mX10_form mX11_form [.ref 0, .int x0, .int x1] SX SM B := by
  by_cases h : InR x0 (2 ^ a.2.1)
  · obtain ⟨s, hs0, rfl⟩ := h
    by_cases h2 : pc9 s ≤ 4 ∧ ¬ x1 < 0
    · obtain ⟨i, hi, rfl⟩ := nI_of h2.2
      cases hb : (baL (rkV a.2.2) (ringsB a.2.2 a.2.1 5) a.2.1 (pc9 s))[i]? with
      | none => exact ⟨_, ag_q (kx_form_no SX B a hs tx u0 u1 u2 ck co hX (Nat.lt_of_succ_lt hB) s i hs0 h2.1 hi (List.getElem?_eq_none_iff.mp hb)) (k_form_no SM a hs tx u0 u1 u2 ck co hM s i hs0 h2.1 hi hb)⟩
      | some b =>
        exact ⟨fmR (rkV a.2.2) (ringsB a.2.2 a.2.1 5) (s + 1) (fun k => if k = s then nI 1 else nI 0) b + nI 1000, ag_q (x_mono (fun v S' z => by
          obtain ⟨g, Y, h3, h4, h5, h6⟩ := z
          rw [← form_eq hX.1.1 hs0 (List.mem_of_getElem? hb) (g := fun k => if k = s then nI 1 else nI 0) (fun _ _ => rfl) h6 h5] at h3
          exact ⟨h3, h4⟩) (kx_form_ok0 SX B a hs tx u0 u1 u2 ck co hX (Nat.lt_of_succ_lt hB) s i hs0 h2.1 hi b hb)) (x_mono (fun v S' z => by
          obtain ⟨g, h3, h4, h6⟩ := z
          have e : fmR (rkV a.2.2) (ringsB a.2.2 a.2.1 5) (s + 1) g b = fmR (rkV a.2.2) (ringsB a.2.2 a.2.1 5) (s + 1) (fun k => if k = s then nI 1 else nI 0) b := by
            have q : ∀ t, t < 2 ^ a.2.1 → ∃ c, brOK (ringsB a.2.2 a.2.1 5) t c := fun t _ => by
              rcases Classical.em (∃ d ∈ ringsB a.2.2 a.2.1 5, ((d &&& (d - 1)) ^^^ ((d &&& (d - 1)) &&& t)) = 0) with ⟨d, hd, z⟩ | z
              · exact ⟨d, Or.inr ⟨hd, z⟩⟩
              · exact ⟨0, Or.inl ⟨rfl, fun d hd y => z ⟨d, hd, y⟩⟩⟩
            have hY : ∀ t, t < 2 ^ a.2.1 → brOK (ringsB a.2.2 a.2.1 5) t ((fun t => if ht : t < 2 ^ a.2.1 then Classical.choose (q t ht) else 0) t) := fun t ht => by
              simp only [ht, dif_pos]
              exact Classical.choose_spec (q t ht)
            rw [form_eq hX.1.1 hs0 (List.mem_of_getElem? hb) h6 (fun _ _ => rfl) hY, form_eq hX.1.1 hs0 (List.mem_of_getElem? hb) (g := fun k => if k = s then nI 1 else nI 0) (fun _ _ => rfl) (fun _ _ => rfl) hY]
          rw [e] at h3
          exact ⟨h3, h4⟩) (k_form_ok0 SM a hs tx u0 u1 u2 ck co hM s i hs0 h2.1 hi b hb))⟩
    · have h3 : ¬ ∃ s1, s1 < 2 ^ a.2.1 ∧ nI s = nI s1 ∧ pc9 s1 ≤ 4 ∧ 0 ≤ x1 := by
        rintro ⟨s1, g1, g2, g3, g4⟩
        have hN := hX.1.1.2.2.1
        have hp : 2 ^ a.2.1 ≤ 2 ^ 9 := Nat.pow_le_pow_right (by decide) hN
        have e : s = s1 := (nI_eq (by omega) (by omega)).mp g2
        subst e
        exact h2 ⟨g3, Int32.not_lt.mpr g4⟩
      exact ⟨_, ag_q (kx_form_bad2 SX B a hs tx u0 u1 u2 ck co hX s hs0 x1 h2) (k_form_bad SM a hs tx u0 u1 u2 ck co hM (nI s) x1 h3)⟩
  · exact ⟨_, ag_q (kx_form_bad1 SX B a hs tx u0 u1 u2 ck co hX x0 x1 h) (k_form_bad SM a hs tx u0 u1 u2 ck co hM x0 x1 (by rintro ⟨s, g1, g2, -⟩; exact h ⟨s, g1, g2⟩))⟩
theorem ag_type (hX : xCore SX B a hs tx u0 u1 u2 ck co) (hM : mCore SM a hs tx u0 u1 u2 ck co) (hB : B + 1 < 2147483648) (x0 : Int32) : AgI mX10_type mX11_type [.ref 0, .int x0] SX SM B := by
  by_cases h : InR x0 128
  · obtain ⟨b, hb, rfl⟩ := h
    by_cases hf : tx.length = 100
    · exact ⟨_, ag_q (kx_type_full SX B a hs tx u0 u1 u2 ck co hX b hb hf) (k_type_full SM a hs tx u0 u1 u2 ck co hM b hb hf)⟩
    · exact ⟨_, ag_q (kx_type_ok SX B a hs tx u0 u1 u2 ck co hX b hb hf) (k_type_ok SM a hs tx u0 u1 u2 ck co hM b hb hf)⟩
  · exact ⟨_, ag_q (kx_type_bad SX B a hs tx u0 u1 u2 ck co hX x0 h) (k_type_bad SM a hs tx u0 u1 u2 ck co hM x0 h)⟩
theorem ag_clear (hX : xCore SX B a hs tx u0 u1 u2 ck co) (hM : mCore SM a hs tx u0 u1 u2 ck co) (hB : B + 1 < 2147483648) : AgI mX10_clear mX11_clear [.ref 0] SX SM B := by
  exact ⟨_, ag_q (kx_clear SX B a hs tx u0 u1 u2 ck co hX ) (k_clear SM a hs tx u0 u1 u2 ck co hM )⟩
theorem ag_reads (hX : xCore SX B a hs tx u0 u1 u2 ck co) (hM : mCore SM a hs tx u0 u1 u2 ck co) (hB : B + 1 < 2147483648) : AgI mX10_reads mX11_reads [.ref 0] SX SM B := by
  cases hp : parse tx a.1 with
  | inl e =>
    refine ⟨i32 (-10 - (e : Int)), ag_q (a := a) (hs := hs) (tx := tx) (u0 := u0) (u1 := u1) (u2 := u2) (ck := ck) (co := co) (kx_reads SX B a hs tx u0 u1 u2 ck co hX _ ?_ ?_ ?_) (k_reads SM a hs tx u0 u1 u2 ck co hM _ ?_ ?_ ?_)⟩
    · intro e1 S1 z1 z2
      rw [hp] at z1
      cases z1
      exact ⟨rfl, z2⟩
    · intro l e1 k S1 z1
      rw [hp] at z1
      cases z1
    · intro l b S1 z1
      rw [hp] at z1
      cases z1
    · intro e1 S1 z1 z2
      rw [hp] at z1
      cases z1
      exact ⟨rfl, z2⟩
    · intro l e1 k S1 z1
      rw [hp] at z1
      cases z1
    · intro l b S1 z1
      rw [hp] at z1
      cases z1
  | inr l =>
    cases hx : exL a l 0 with
    | inl ek =>
      obtain ⟨e, k⟩ := ek
      refine ⟨i32 (-1000 - (k : Int)), ag_c (a := a) (hs := hs) (tx := tx) (u0 := u0) (u1 := u1) (u2 := u2) (ck := nI e) (co := nI k) (kx_reads SX B a hs tx u0 u1 u2 ck co hX _ ?_ ?_ ?_) (k_reads SM a hs tx u0 u1 u2 ck co hM _ ?_ ?_ ?_)⟩
      · intro e1 S1 z1 z2
        rw [hp] at z1
        cases z1
      · intro l1 e1 k1 S1 z1 z2 z3
        rw [hp] at z1
        cases z1
        rw [hx] at z2
        cases z2
        exact ⟨rfl, z3⟩
      · intro l1 b S1 z1 z2
        rw [hp] at z1
        cases z1
        rw [hx] at z2
        cases z2
      · intro e1 S1 z1 z2
        rw [hp] at z1
        cases z1
      · intro l1 e1 k1 S1 z1 z2 z3
        rw [hp] at z1
        cases z1
        rw [hx] at z2
        cases z2
        exact ⟨rfl, z3⟩
      · intro l1 b S1 z1 z2
        rw [hp] at z1
        cases z1
        rw [hx] at z2
        cases z2
    | inr b =>
      refine ⟨nI l.length, ag_c (a := b) (hs := pushH hs a) (tx := tx) (u0 := u0) (u1 := u1) (u2 := u2) (ck := ck) (co := co) (kx_reads SX B a hs tx u0 u1 u2 ck co hX _ ?_ ?_ ?_) (k_reads SM a hs tx u0 u1 u2 ck co hM _ ?_ ?_ ?_)⟩
      · intro e1 S1 z1 z2
        rw [hp] at z1
        cases z1
      · intro l1 e1 k1 S1 z1 z2
        rw [hp] at z1
        cases z1
        rw [hx] at z2
        cases z2
      · intro l1 b1 S1 z1 z2 z3
        rw [hp] at z1
        cases z1
        rw [hx] at z2
        cases z2
        exact ⟨rfl, z3⟩
      · intro e1 S1 z1 z2
        rw [hp] at z1
        cases z1
      · intro l1 e1 k1 S1 z1 z2
        rw [hp] at z1
        cases z1
        rw [hx] at z2
        cases z2
      · intro l1 b1 S1 z1 z2 z3
        rw [hp] at z1
        cases z1
        rw [hx] at z2
        cases z2
        exact ⟨rfl, z3⟩
theorem ag_why (hX : xCore SX B a hs tx u0 u1 u2 ck co) (hM : mCore SM a hs tx u0 u1 u2 ck co) (hB : B + 1 < 2147483648) (x0 : Int32) : AgI mX10_why mX11_why [.ref 0, .int x0] SX SM B := by
  by_cases h : InR x0 2
  · obtain ⟨k, hk, rfl⟩ := h
    rcases ag_lt2 hk with z | z
    · subst z
      exact ⟨_, ag_q (kx_why_0 SX B a hs tx u0 u1 u2 ck co hX ) (k_why_0 SM a hs tx u0 u1 u2 ck co hM )⟩
    · subst z
      exact ⟨_, ag_q (kx_why_1 SX B a hs tx u0 u1 u2 ck co hX ) (k_why_1 SM a hs tx u0 u1 u2 ck co hM )⟩
  · exact ⟨_, ag_q (kx_why_bad SX B a hs tx u0 u1 u2 ck co hX x0 h) (k_why_bad SM a hs tx u0 u1 u2 ck co hM x0 h)⟩
theorem ag_back (hX : xCore SX B a hs tx u0 u1 u2 ck co) (hM : mCore SM a hs tx u0 u1 u2 ck co) (hB : B + 1 < 2147483648) : AgI mX10_back mX11_back [.ref 0] SX SM B := by
  rcases List.eq_nil_or_concat hs with h | ⟨hs1, b, h⟩
  · exact ⟨_, ag_q (kx_back_no SX B a hs tx u0 u1 u2 ck co hX h) (k_back_no SM a hs tx u0 u1 u2 ck co hM h)⟩
  · have h' : hs = hs1 ++ [b] := by rw [h, List.concat_eq_append]
    exact ⟨_, ag_c (kx_back_ok SX B a hs tx u0 u1 u2 ck co hX hs1 b h') (k_back_ok SM a hs tx u0 u1 u2 ck co hM hs1 b h')⟩
theorem ag_told (hX : xCore SX B a hs tx u0 u1 u2 ck co) (hM : mCore SM a hs tx u0 u1 u2 ck co) (hB : B + 1 < 2147483648) (x0 : Int32) : AgI mX10_told mX11_told [.ref 0, .int x0] SX SM B := by
  by_cases h : InR x0 8
  · obtain ⟨k, hk, rfl⟩ := h
    rcases (show k = 0 ∨ k = 1 ∨ k = 2 ∨ k = 3 ∨ k = 4 ∨ k = 5 ∨ k = 6 ∨ k = 7 by omega) with z | z | z | z | z | z | z | z
    · subst z
      exact ⟨_, ag_q (kx_told_0 SX B a hs tx u0 u1 u2 ck co hX ) (k_told_0 SM a hs tx u0 u1 u2 ck co hM )⟩
    · subst z
      exact ⟨_, ag_q (kx_told_1 SX B a hs tx u0 u1 u2 ck co hX ) (k_told_1 SM a hs tx u0 u1 u2 ck co hM )⟩
    · subst z
      exact ⟨_, ag_q (kx_told_2 SX B a hs tx u0 u1 u2 ck co hX ) (k_told_2 SM a hs tx u0 u1 u2 ck co hM )⟩
    · subst z
      exact ⟨_, ag_q (kx_told_3 SX B a hs tx u0 u1 u2 ck co hX ) (k_told_3 SM a hs tx u0 u1 u2 ck co hM )⟩
    · subst z
      exact ⟨_, ag_q (kx_told_4 SX B a hs tx u0 u1 u2 ck co hX ) (k_told_4 SM a hs tx u0 u1 u2 ck co hM )⟩
    · subst z
      exact ⟨_, ag_q (kx_told_5 SX B a hs tx u0 u1 u2 ck co hX ) (k_told_5 SM a hs tx u0 u1 u2 ck co hM )⟩
    · subst z
      exact ⟨_, ag_q (kx_told_6 SX B a hs tx u0 u1 u2 ck co hX (Nat.lt_of_succ_lt hB) ) (k_told_6 SM a hs tx u0 u1 u2 ck co hM )⟩
    · subst z
      exact ⟨_, ag_q (kx_told_7 SX B a hs tx u0 u1 u2 ck co hX ) (k_told_7 SM a hs tx u0 u1 u2 ck co hM )⟩
  · exact ⟨_, ag_q (kx_told_bad SX B a hs tx u0 u1 u2 ck co hX x0 h) (k_told_bad SM a hs tx u0 u1 u2 ck co hM x0 h)⟩
theorem ag_digest (hX : xCore SX B a hs tx u0 u1 u2 ck co) (hM : mCore SM a hs tx u0 u1 u2 ck co) (hB : B + 1 < 2147483648) : AgL mX10_digest mX11_digest [.ref 0] SX SM B := by
  exact ⟨_, ag_q (kx_digest SX B a hs tx u0 u1 u2 ck co hX (Nat.lt_of_succ_lt hB) ) (k_digest SM a hs tx u0 u1 u2 ck co hM )⟩
end AG
