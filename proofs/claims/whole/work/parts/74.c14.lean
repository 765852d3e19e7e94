/-! THE CLASS: base sets -/
def rst (c : Nat) : Nat := c &&& (c - 1)
def exOK (L : List Nat) (t c : Nat) : Prop := (c = 0 ∧ ∀ d ∈ L, rst d ≠ t) ∨ (c ∈ L ∧ rst c = t)
theorem exOK_br {L : List Nat} {t c : Nat} (h : exOK L t c) (h0 : c ≠ 0) : brOK L t c := by
  rcases h with h | h
  · exact absurd h.1 h0
  · right
    refine ⟨h.1, ?_⟩
    show rst c ^^^ (rst c &&& t) = 0
    rw [h.2, Nat.and_self, Nat.xor_self]
theorem ring_lt {d N : Nat} {v : Nat → Row} (hA : Arr d N v) {c : Nat} (h : c ∈ ringsB v N 5) : c < 2 ^ N ∧ c < 512 ∧ c ≠ 0 := by
  have hp := pow9 hA.2.2.1
  obtain ⟨h1, -, h3⟩ := ringsB_mem h
  refine ⟨h1, by omega, fun z => ?_⟩
  have := (rg_size hA h1 h3).2
  rw [z] at this
  have h0 : pc9 0 = 0 := by decide
  omega
theorem brOK_lt {d N : Nat} {v : Nat → Row} (hA : Arr d N v) {t c : Nat} (h : brOK (ringsB v N 5) t c) : c < 512 := by
  rcases h with h | h
  · omega
  · exact (ring_lt hA h.1).2.1
theorem brOK_none {d N : Nat} {v : Nat → Row} (hA : Arr d N v) {t c : Nat} (h : brOK (ringsB v N 5) t c) : c = 0 ↔ (brL (ringsB v N 5) t).isNone = true := by
  have e : (brL (ringsB v N 5) t).isNone = true ↔ ∀ d ∈ ringsB v N 5, ¬ ((d &&& (d - 1)) ^^^ ((d &&& (d - 1)) &&& t)) = 0 := by
    unfold brL
    rw [Option.isNone_iff_eq_none, List.findIdx?_eq_none_iff]
    constructor
    · intro z d hd q
      have := z d hd
      rw [q] at this
      cases this
    · intro z d hd
      exact beq_false_of_ne (z d hd)
  rw [e]
  rcases h with h | h
  · exact ⟨fun _ => h.2, fun _ => h.1⟩
  · exact ⟨fun z => absurd z (ring_lt hA h.1).2.2, fun z => absurd h.2 (z c h.1)⟩
theorem rst_lt {c N : Nat} (h : c < 2 ^ N) : rst c < 2 ^ N := Nat.lt_of_le_of_lt Nat.and_le_left h
set_option maxRecDepth 100000 in
set_option maxHeartbeats 4000000 in
theorem kx_ar_1 (S0 : amS) (a : Ar) (hA : Arr a.1 a.2.1 a.2.2) (ho0 : aObj S0 1 2 a) (hl0 : laidX S0 a.2.1 a.2.2) (Q : Option Value → amS → Prop) (hq : ∀ g z3, (∀ t, t < 512 → ∃ x, g t = nI x ∧ exOK (ringsB a.2.2 a.2.1 5) t x) → X shX mX0_refresh 83 [.ref 42, .ref 24, .int (nI (ringsB a.2.2 a.2.1 5).length), z3] [] (sA S0 43 g) Q) : ∀ (e k : Nat) (g : Nat → Int32) (z3 : Value), k + e = (ringsB a.2.2 a.2.1 5).length → (∀ t, t < 512 → ∃ x, g t = nI x ∧ exOK ((ringsB a.2.2 a.2.1 5).take k) t x) → X shX mX0_refresh 51 [.ref 42, .ref 24, .int (nI k), z3] [] (sA S0 43 g) Q := by
  have h512 := pow9 hA.2.2.1
  have h126 := rings_126 hA 5
  intro e
  induction e with
  | zero =>
    intro k g z3 h1 h2
    obtain rfl : k = (ringsB a.2.2 a.2.1 5).length := by omega
    rw [List.take_length] at h2
    refine x_iload_n dX0_refresh_51 rfl ?_
    refine x_aload_n dX0_refresh_52 rfl ?_
    refine x_getIV dX0_refresh_53 fl_X0_58 rfl (hl0.2.2.1) ?_
    refine x_icmp_geN 83 dX0_refresh_56 rfl (by omega) (by omega) (fun c56 => ?_) (fun c56 => ?_)
    · exact hq g _ h2
    · exact absurd c56 (by omega)
  | succ e ih =>
    intro k g z3 h1 h2
    have hk : k < (ringsB a.2.2 a.2.1 5).length := by omega
    obtain ⟨c, hkc⟩ : ∃ c, (ringsB a.2.2 a.2.1 5)[k]? = some c := ⟨_, List.getElem?_eq_getElem hk⟩
    obtain ⟨c1, c2, c3⟩ := ring_lt hA (List.mem_of_getElem? hkc)
    have hrl : rst c < 2 ^ a.2.1 := rst_lt c1
    have hrl2 : c &&& (c - 1) < 512 := Nat.lt_of_lt_of_le hrl h512
    have etk : (ringsB a.2.2 a.2.1 5).take (k + 1) = (ringsB a.2.2 a.2.1 5).take k ++ [c] := by rw [List.take_add_one, hkc]; rfl
    refine x_iload_n dX0_refresh_51 rfl ?_
    refine x_aload_n dX0_refresh_52 rfl ?_
    refine x_getIV dX0_refresh_53 fl_X0_58 rfl (hl0.2.2.1) ?_
    refine x_icmp_geN 83 dX0_refresh_56 rfl (by omega) (by omega) (fun c56 => ?_) (fun c56 => ?_)
    · exact absurd c56 (by omega)
    · refine x_aload_n dX0_refresh_59 rfl ?_
      refine x_getR dX0_refresh_60 fl_X0_61 rfl ?_
      refine x_iload_n dX0_refresh_63 rfl ?_
      refine x_ialdN dX0_refresh_64 rfl rfl (by omega) (hl0.2.2.2 k c hkc) ?_
      refine x_istore_n dX0_refresh_65 rfl ?_
      refine x_aload_n dX0_refresh_66 rfl ?_
      refine x_getR dX0_refresh_67 fl_X0_9 rfl ?_
      refine x_iload_n dX0_refresh_70 rfl ?_
      refine x_iload_n dX0_refresh_71 rfl ?_
      refine x_ic _ ic_1 dX0_refresh_72 ?_
      refine x_isubN dX0_refresh_73 (by omega) ?_
      refine x_iandN dX0_refresh_74 ?_
      refine x_iload_n dX0_refresh_75 rfl ?_
      refine x_iastN dX0_refresh_76 rfl rfl (by omega) ?_
      refine x_iincN dX0_refresh_77 rfl rfl ?_
      refine x_goto 51 dX0_refresh_80 rfl ?_
      rw [sA_sA, sA_at]
      refine ih (k + 1) _ _ (by omega) (fun t ht => ?_)
      rw [etk]
      by_cases q : t = c &&& (c - 1)
      · refine ⟨c, by rw [q, upd_s], Or.inr ⟨by simp, q.symm⟩⟩
      · obtain ⟨x, x1, x2⟩ := h2 t ht
        refine ⟨x, by rw [upd_n _ _ q]; exact x1, ?_⟩
        rcases x2 with x2 | x2
        · refine Or.inl ⟨x2.1, fun d hd => ?_⟩
          rcases List.mem_append.mp hd with hd | hd
          · exact x2.2 d hd
          · rw [List.mem_singleton.mp hd]; exact fun z => q z.symm
        · exact Or.inr ⟨List.mem_append_left _ x2.1, x2.2⟩
theorem br_end {d N : Nat} {v : Nat → Row} (hA : Arr d N v) {t : Nat} (ht : t < 2 ^ N) (h0 : ∀ d ∈ ringsB v N 5, rst d ≠ t) (h1 : ∀ j, j < N → t.testBit j = true → ∀ d ∈ ringsB v N 5, ¬ rst d ^^^ (rst d &&& less t j) = 0) : ∀ d ∈ ringsB v N 5, ¬ rst d ^^^ (rst d &&& t) = 0 := by
  intro d hd hz
  have hs := sub_xor.mp hz
  have : ∃ i, t.testBit i = true ∧ (rst d).testBit i = false := by
    refine Classical.byContradiction (fun z => h0 d hd ?_)
    apply Nat.eq_of_testBit_eq
    intro i
    cases e : (rst d).testBit i with
    | true => rw [and_sub hs i e]
    | false =>
      cases e2 : t.testBit i with
      | false => rfl
      | true => exact absurd ⟨i, e2, e⟩ z
  obtain ⟨i, i1, i2⟩ := this
  refine h1 i (tb_lt ht i1) i1 d hd (sub_xor.mpr (sub_and (fun j hj => ?_)))
  rw [less_tb, and_sub hs j hj]
  simp
  intro z
  subst z
  rw [i2] at hj
  cases hj
set_option maxRecDepth 100000 in
set_option maxHeartbeats 4000000 in
theorem kx_ar_3 (S0 : amS) (a : Ar) (hA : Arr a.1 a.2.1 a.2.2) (ho0 : aObj S0 1 2 a) (hl0 : laidX S0 a.2.1 a.2.2) (Q : Option Value → amS → Prop) (t : Nat) (ht : t < 2 ^ a.2.1) (hq : ∀ g z3, (∀ u, u < t + 1 → ∃ x, g u = nI x ∧ brOK (ringsB a.2.2 a.2.1 5) u x) → (∀ u, t < u → u < 2 ^ a.2.1 → ∃ x, g u = nI x ∧ exOK (ringsB a.2.2 a.2.1 5) u x) → X shX mX0_refresh 148 [.ref 42, .ref 24, .int (nI t), z3] [] (sA S0 43 g) Q) : ∀ (e i : Nat) (g : Nat → Int32), i + e = a.2.1 → (∀ u, u < t → ∃ x, g u = nI x ∧ brOK (ringsB a.2.2 a.2.1 5) u x) → (∀ u, t < u → u < 2 ^ a.2.1 → ∃ x, g u = nI x ∧ exOK (ringsB a.2.2 a.2.1 5) u x) → (∃ x, g t = nI x ∧ ((x ∈ (ringsB a.2.2 a.2.1 5) ∧ rst x ^^^ (rst x &&& t) = 0) ∨ (x = 0 ∧ (∀ d ∈ (ringsB a.2.2 a.2.1 5), rst d ≠ t) ∧ ∀ j, j < i → t.testBit j = true → ∀ d ∈ (ringsB a.2.2 a.2.1 5), ¬ rst d ^^^ (rst d &&& less t j) = 0))) → X shX mX0_refresh 98 [.ref 42, .ref 24, .int (nI t), .int (nI i)] [] (sA S0 43 g) Q := by
  have h512 := pow9 hA.2.2.1
  have a3 := hA.2.2.1
  have endx : ∀ (g : Nat → Int32) (x : Nat), x ∈ ringsB a.2.2 a.2.1 5 → rst x ^^^ (rst x &&& t) = 0 → g t = nI x → (∀ u, u < t → ∃ x, g u = nI x ∧ brOK (ringsB a.2.2 a.2.1 5) u x) → ∀ u, u < t + 1 → ∃ x, g u = nI x ∧ brOK (ringsB a.2.2 a.2.1 5) u x := by
    intro g x x1 x2 x3 x4 u hu
    by_cases q : u = t
    · exact ⟨x, by rw [q]; exact x3, Or.inr ⟨x1, by rw [q]; exact x2⟩⟩
    · exact x4 u (by omega)
  intro e
  induction e with
  | zero =>
    intro i g h1 h2 h3 h4
    obtain rfl : i = a.2.1 := by omega
    refine x_iload_n dX0_refresh_98 rfl ?_
    refine x_aload_n dX0_refresh_99 rfl ?_
    refine x_getR dX0_refresh_100 fl_X0_31 rfl ?_
    refine x_getIV dX0_refresh_103 fl_X0_68 rfl (ho0.2.1) ?_
    refine x_icmp_geN 148 dX0_refresh_106 rfl (by omega) (by omega) (fun c106 => ?_) (fun c106 => ?_)
    · obtain ⟨x, x1, x2⟩ := h4
      rcases x2 with x2 | x2
      · exact hq g _ (endx g x x2.1 x2.2 x1 h2) h3
      · refine hq g _ (fun u hu => ?_) h3
        by_cases q : u = t
        · exact ⟨0, by rw [q, x1, x2.1], Or.inl ⟨rfl, by rw [q]; exact br_end hA ht x2.2.1 x2.2.2⟩⟩
        · exact h2 u (by omega)
    · exact absurd c106 (by omega)
  | succ e ih =>
    intro i g h1 h2 h3 h4
    obtain ⟨x, x1, x2⟩ := id h4
    have hx5 : x < 512 := by
      rcases x2 with x2 | x2
      · exact (ring_lt hA x2.1).2.1
      · omega
    have hle : t / 2 ^ i &&& 1 ≤ 1 := Nat.and_le_right
    refine x_iload_n dX0_refresh_98 rfl ?_
    refine x_aload_n dX0_refresh_99 rfl ?_
    refine x_getR dX0_refresh_100 fl_X0_31 rfl ?_
    refine x_getIV dX0_refresh_103 fl_X0_68 rfl (ho0.2.1) ?_
    refine x_icmp_geN 148 dX0_refresh_106 rfl (by omega) (by omega) (fun c106 => ?_) (fun c106 => ?_)
    · exact absurd c106 (by omega)
    · refine x_aload_n dX0_refresh_109 rfl ?_
      refine x_getR dX0_refresh_110 fl_X0_9 rfl ?_
      refine x_iload_n dX0_refresh_113 rfl ?_
      refine x_ialdN dX0_refresh_114 rfl rfl (by omega) ((show (sA S0 43 g).2.1 43 t = nI x by rw [sA_at]; exact x1)) ?_
      refine x_if_neN 148 dX0_refresh_115 rfl (by omega) (fun c115 => ?_) (fun c115 => ?_)
      · rcases x2 with x2 | x2
        · exact hq g _ (endx g x x2.1 x2.2 x1 h2) h3
        · exact absurd x2.1 c115
      · have hx0 := x2.resolve_left (fun z => (ring_lt hA z.1).2.2 c115)
        refine x_iload_n dX0_refresh_118 rfl ?_
        refine x_iload_n dX0_refresh_119 rfl ?_
        refine x_ishrN dX0_refresh_120 (by omega) (by omega) ?_
        refine x_ic _ ic_1 dX0_refresh_121 ?_
        refine x_iandN dX0_refresh_122 ?_
        refine x_if_eqN 142 dX0_refresh_123 rfl (by omega) (fun c123 => ?_) (fun c123 => ?_)
        · have hb := and1_eq c123
          refine x_iincN dX0_refresh_142 rfl rfl ?_
          refine x_goto 98 dX0_refresh_145 rfl ?_
          refine ih (i + 1) g (by omega) h2 h3 ⟨x, x1, Or.inr ⟨hx0.1, hx0.2.1, fun j hj hjb => ?_⟩⟩
          by_cases q : j = i
          · rw [q, hb] at hjb; cases hjb
          · exact hx0.2.2 j (by omega) hjb
        · have hb := and1_ne c123
          have hlt := less_lt_self hb
          obtain ⟨y, y1, y2⟩ := h2 _ hlt
          refine x_aload_n dX0_refresh_126 rfl ?_
          refine x_getR dX0_refresh_127 fl_X0_9 rfl ?_
          refine x_iload_n dX0_refresh_130 rfl ?_
          refine x_aload_n dX0_refresh_131 rfl ?_
          refine x_getR dX0_refresh_132 fl_X0_9 rfl ?_
          refine x_iload_n dX0_refresh_135 rfl ?_
          refine x_ic _ ic_1 dX0_refresh_136 ?_
          refine x_iload_n dX0_refresh_137 rfl ?_
          refine x_ishl1 dX0_refresh_138 (by omega) ?_
          refine x_ixorN dX0_refresh_139 ?_
          rw [xor_less hb]
          refine x_ialdN dX0_refresh_140 rfl rfl (by omega) ((show (sA S0 43 g).2.1 43 (less t i) = nI y by rw [sA_at]; exact y1)) ?_
          refine x_iastN dX0_refresh_141 rfl rfl (by omega) ?_
          refine x_iincN dX0_refresh_142 rfl rfl ?_
          refine x_goto 98 dX0_refresh_145 rfl ?_
          rw [sA_sA, sA_at]
          refine ih (i + 1) _ (by omega) (fun u hu => ?_) (fun u hu1 hu2 => ?_) ⟨y, by rw [upd_s], ?_⟩
          · obtain ⟨z, z1, z2⟩ := h2 u hu
            exact ⟨z, by rw [upd_n _ _ (by omega)]; exact z1, z2⟩
          · obtain ⟨z, z1, z2⟩ := h3 u hu1 hu2
            exact ⟨z, by rw [upd_n _ _ (by omega)]; exact z1, z2⟩
          · rcases y2 with y2 | y2
            · refine Or.inr ⟨y2.1, hx0.2.1, fun j hj hjb => ?_⟩
              by_cases q : j = i
              · rw [q]; exact y2.2
              · exact hx0.2.2 j (by omega) hjb
            · refine Or.inl ⟨y2.1, sub_xor.mpr (sub_and (fun j hj => ?_))⟩
              exact less_sub t i j (and_sub (sub_xor.mp y2.2) j hj)
set_option maxRecDepth 100000 in
set_option maxHeartbeats 4000000 in
theorem kx_ar_2 (S0 : amS) (a : Ar) (hA : Arr a.1 a.2.1 a.2.2) (ho0 : aObj S0 1 2 a) (hl0 : laidX S0 a.2.1 a.2.2) (Q : Option Value → amS → Prop) (hq : ∀ g, (∀ u, u < 2 ^ a.2.1 → ∃ x, g u = nI x ∧ brOK (ringsB a.2.2 a.2.1 5) u x) → Q none (sA S0 43 g)) : ∀ (e t : Nat) (g : Nat → Int32) (z3 : Value), t + e = 2 ^ a.2.1 → (∀ u, u < t → ∃ x, g u = nI x ∧ brOK (ringsB a.2.2 a.2.1 5) u x) → (∀ u, t ≤ u → u < 2 ^ a.2.1 → ∃ x, g u = nI x ∧ exOK (ringsB a.2.2 a.2.1 5) u x) → X shX mX0_refresh 85 [.ref 42, .ref 24, .int (nI t), z3] [] (sA S0 43 g) Q := by
  have h512 := pow9 hA.2.2.1
  have hpos := Nat.two_pow_pos a.2.1
  have a3 := hA.2.2.1
  intro e
  induction e with
  | zero =>
    intro t g z3 h1 h2 h3
    obtain rfl : t = 2 ^ a.2.1 := by omega
    refine x_iload_n dX0_refresh_85 rfl ?_
    refine x_aload_n dX0_refresh_86 rfl ?_
    refine x_getR dX0_refresh_87 fl_X0_31 rfl ?_
    refine x_v0d (N := mX1_all) dX0_refresh_90 ml_X0_64 nv_X1_all rfl rfl (kx_all (sA S0 43 g) a.2.1 a3 ho0.2.1) ?_
    refine x_icmp_gtN 154 dX0_refresh_93 rfl (by omega) (by omega) (fun c93 => ?_) (fun c93 => ?_)
    · refine x_ret dX0_refresh_154 rfl ?_
      exact hq g h2
    · exact absurd c93 (by omega)
  | succ e ih =>
    intro t g z3 h1 h2 h3
    obtain ⟨x, x1, x2⟩ := h3 t (Nat.le_refl _) (by omega)
    refine x_iload_n dX0_refresh_85 rfl ?_
    refine x_aload_n dX0_refresh_86 rfl ?_
    refine x_getR dX0_refresh_87 fl_X0_31 rfl ?_
    refine x_v0d (N := mX1_all) dX0_refresh_90 ml_X0_64 nv_X1_all rfl rfl (kx_all (sA S0 43 g) a.2.1 a3 ho0.2.1) ?_
    refine x_icmp_gtN 154 dX0_refresh_93 rfl (by omega) (by omega) (fun c93 => ?_) (fun c93 => ?_)
    · exact absurd c93 (by omega)
    · refine x_ic _ ic_0 dX0_refresh_96 ?_
      refine x_istore_n dX0_refresh_97 rfl ?_
      refine kx_ar_3 S0 a hA ho0 hl0 Q t (by omega) (fun g' z3 e1 e2 => ?_) a.2.1 0 g (by omega) h2 (fun u hu1 hu2 => h3 u (by omega) hu2) ⟨x, x1, ?_⟩
      · refine x_iincN dX0_refresh_148 rfl rfl ?_
        refine x_goto 85 dX0_refresh_151 rfl ?_
        exact ih (t + 1) g' _ (by omega) e1 (fun u hu1 hu2 => e2 u (by omega) hu2)
      · rcases x2 with x2 | x2
        · exact Or.inr ⟨x2.1, x2.2, fun j hj => absurd hj (Nat.not_lt_zero j)⟩
        · exact Or.inl ⟨x2.1, by rw [x2.2, Nat.and_self, Nat.xor_self]⟩
set_option maxRecDepth 100000 in
set_option maxHeartbeats 4000000 in
theorem kx_arefresh (S : amS) (a : Ar) (hA : Arr a.1 a.2.1 a.2.2) (ho : aObj S 1 2 a) (V : Nat) (hV : S.1 1 3 = nI V) (hVb : V < 2147483648) (hsm : seenX S 19 7 V (laidX S a.2.1 a.2.2)) (hsn : seenX S 42 5 V (laidA S a.2.1 a.2.2)) : X shX mX0_refresh 0 [.ref 42, .null, .null, .null] [] S (fun r S' => r = none ∧ ((S' = S ∧ laidA S a.2.1 a.2.2) ∨ (FO [19, 20, 24, 42] [22, 23, 25, 43] S S' ∧ S'.1 42 5 = nI V ∧ S'.1 19 7 = nI V ∧ laidX S' a.2.1 a.2.2 ∧ laidA S' a.2.1 a.2.2))) := by
  obtain ⟨a1, a2, a3, a4, a5, a6, a7⟩ := id hA
  obtain ⟨m1, m2, m3⟩ := id ho
  have h512 := pow9 a3
  have hpos := Nat.two_pow_pos a.2.1
  obtain ⟨w, w1, w2, w3, w4⟩ := hsn
  refine x_aload_n dX0_refresh_0 rfl ?_
  refine x_getIV dX0_refresh_1 fl_X0_27 rfl (w3) ?_
  refine x_aload_n dX0_refresh_4 rfl ?_
  refine x_getR dX0_refresh_5 fl_X0_31 rfl ?_
  refine x_getIV dX0_refresh_8 fl_X0_39 rfl (hV) ?_
  refine x_topI ?_
  refine x_icmp_neI 15 dX0_refresh_11 rfl (by omega) (by omega) (fun c11 => ?_) (fun c11 => ?_)
  · refine x_aload_n dX0_refresh_15 rfl ?_
    refine x_aload_n dX0_refresh_16 rfl ?_
    refine x_getR dX0_refresh_17 fl_X0_31 rfl ?_
    refine x_getIV dX0_refresh_20 fl_X0_39 rfl (hV) ?_
    refine x_put dX0_refresh_23 fp_X0_27 rfl rfl rfl ?_
    have e5 : (sF S 42 (upd (S.1 42) 5 (nI V))).1 42 5 = nI V := by simp [sF, sA, va_up, upd]
    have f0 : FO [42] [43] S (sF S 42 (upd (S.1 42) 5 (nI V))) := (FO.rf _ _ S).sF _ (by simp)
    generalize sF S 42 (upd (S.1 42) 5 (nI V)) = T at e5 f0 ⊢
    refine x_aload_n dX0_refresh_26 rfl ?_
    refine x_getR dX0_refresh_27 fl_X0_9 rfl ?_
    refine x_ic _ ic_0 dX0_refresh_30 ?_
    refine x_s2 (N := mJ7_fill_53178) dX0_refresh_31 ml_X0_44 ns_J7_fill_53178 rfl (kx_fill_43 T) ?_
    rintro _ _ ⟨rfl, g0, rfl, hg0⟩
    have f1 := f0.sA g0 (r := 43) (by decide)
    refine x_aload_n dX0_refresh_34 rfl ?_
    refine x_getR dX0_refresh_35 fl_X0_35 rfl ?_
    refine x_v0 (N := mX6_refresh) dX0_refresh_38 ml_X0_50 nv_X6_refresh rfl rfl (kx_mrefresh (sA T 43 g0) a hA (ho.fo f1 (by decide) (by decide)) V (by rw [f1.1 1 (by decide)]; exact hV) hVb (hsm.fo (f1.1 _ (by decide)) (fun z => z.fo f1 (by decide) (by decide)))) ?_
    rintro _ S2 ⟨rfl, f2, k7, kl⟩
    have ho2 := (ho.fo f1 (by decide) (by decide)).fo f2 (by decide) (by decide)
    refine x_aload_n dX0_refresh_41 rfl ?_
    refine x_getR dX0_refresh_42 fl_X0_35 rfl ?_
    refine x_getR dX0_refresh_45 fl_X0_55 rfl ?_
    refine x_astore_n dX0_refresh_48 rfl ?_
    refine x_ic _ ic_0 dX0_refresh_49 ?_
    refine x_istore_n dX0_refresh_50 rfl ?_
    refine x_st (sA_self S2 43) ?_
    refine kx_ar_1 S2 a hA ho2 kl _ (fun g z3 hg => ?_) (ringsB a.2.2 a.2.1 5).length 0 _ _ (by omega) (fun t ht => ⟨0, ?_, Or.inl ⟨rfl, fun d hd => by simp at hd⟩⟩)
    · refine x_ic _ ic_0 dX0_refresh_83 ?_
      refine x_istore_n dX0_refresh_84 rfl ?_
      refine kx_ar_2 S2 a hA ho2 kl _ (fun g2 hg2 => ⟨rfl, Or.inr ⟨?_, ?_, ?_, ?_, ?_⟩⟩) (2 ^ a.2.1) 0 g _ (by omega) (fun u hu => absurd hu (Nat.not_lt_zero u)) (fun u _ hu => hg u (by omega))
      · exact ((f1.mono (by decide) (by decide)).tr (f2.mono (by decide) (by decide))).sA g2 (by decide)
      · show S2.1 42 5 = _
        rw [f2.1 42 (by decide)]; exact e5
      · exact k7
      · exact kl.fo ((FO.rf [] [43] S2).sA g2 (by decide)) (by decide) (by decide)
      · intro t ht
        rw [sA_at]; exact hg2 t ht
    · rw [f2.2.1 43 (by decide), sA_at]; exact hg0 t ht
  · refine x_ret dX0_refresh_14 rfl ?_
    exact ⟨rfl, Or.inl ⟨rfl, w4 c11⟩⟩
theorem kx_arq (S : amS) (B : Nat) (a : Ar) (hs : List Ar) (tx : List Nat) (u0 u1 u2 ck co : Int32) (hc : xCore S B a hs tx u0 u1 u2 ck co) (hB : B < 2147483648) : X shX mX0_refresh 0 [.ref 42, .null, .null, .null] [] S (fun r S' => r = none ∧ xCore S' B a hs tx u0 u1 u2 ck co ∧ laidA S' a.2.1 a.2.2) := by
  obtain ⟨⟨h1, h2⟩, h3, V, h4, h5, t1, t2, t3, t4⟩ := id hc
  refine x_mono ?_ (kx_arefresh S a h1 h2 V h5 (by omega) t1 t4)
  rintro _ S' ⟨rfl, (⟨rfl, hl⟩ | ⟨f, e5, e7, hl, hr⟩)⟩
  · exact ⟨rfl, hc, hl⟩
  · exact ⟨rfl, ⟨⟨h1, h2.fo f (by decide) (by decide)⟩, h3.fo f (by decide) (by decide) (by decide), V, h4, by rw [f.1 1 (by decide)]; exact h5, ⟨V, by omega, by omega, by rw [e7, nI_i32], fun _ => hl⟩, t2.fo (f.1 _ (by decide)) (fun z => z.fo f (by decide) (by decide)), t3.fo (f.1 _ (by decide)) (fun z => z.mt f (by decide) hl), ⟨V, by omega, by omega, by rw [e5, nI_i32], fun _ => hr⟩⟩, hr⟩
set_option maxRecDepth 100000 in
set_option maxHeartbeats 4000000 in
theorem kx_isIndF (S : amS) (B : Nat) (a : Ar) (hs : List Ar) (tx : List Nat) (u0 u1 u2 ck co : Int32) (hc : xCore S B a hs tx u0 u1 u2 ck co) (hB : B < 2147483648) (s : Nat) (hs0 : s < 2 ^ a.2.1) : X shX mX6_isIndependent 0 [.ref 19, .int (nI s)] [] S (fun r S' => r = some (.int (zB (!bdB (rkV a.2.2) s))) ∧ xCore S' B a hs tx u0 u1 u2 ck co ∧ FO [19, 20, 24] [22, 23, 25] S S') := by
  obtain ⟨⟨hA, ho⟩, hrest, hV⟩ := id hc
  obtain ⟨a1, a2, a3, a4, a5, a6, a7⟩ := id hA
  obtain ⟨m1, m2, m3⟩ := id ho
  have h512 := pow9 a3
  have hpos := Nat.two_pow_pos a.2.1
  have hr9 : ∀ t, t < 2 ^ a.2.1 → rkV a.2.2 t ≤ 9 := fun t ht => Nat.le_trans (rkV_le (by omega)) (pc9_le t (by omega))
  have hle := rkV_le (v := a.2.2) (s := s) (by omega)
  have hpc := pc9_le s (by omega)
  refine x_aload_n dX6_isIndependent_0 rfl ?_
  refine x_v0 (N := mX6_refresh) dX6_isIndependent_1 ml_X6_99 nv_X6_refresh rfl rfl (kx_mrq S B a hs tx u0 u1 u2 ck co hc hB) ?_
  rintro _ S' ⟨rfl, hc', hl, hf⟩
  refine x_aload_n dX6_isIndependent_4 rfl ?_
  refine x_getR dX6_isIndependent_5 fl_X6_18 rfl ?_
  refine x_iload_n dX6_isIndependent_8 rfl ?_
  refine x_ialdN dX6_isIndependent_9 rfl rfl (by omega) (hl.1 s hs0) ?_
  refine x_iload_n dX6_isIndependent_10 rfl ?_
  refine x_s1d (N := mJ6_bitCount_0f7a4) dX6_isIndependent_11 ml_X6_71 ns_J6_bitCount_0f7a4 rfl (kx_bc S' s (by omega)) ?_
  refine x_icmp_neN 21 dX6_isIndependent_14 rfl (by omega) (by omega) (fun c14 => ?_) (fun c14 => ?_)
  · refine x_ic _ ic_0 dX6_isIndependent_21 ?_
    refine x_zret0 dX6_isIndependent_22 rfl ?_
    exact ⟨by rw [zB_f]; rw [bdB, decide_eq_true (by omega)]; rfl, hc', hf⟩
  · refine x_ic _ ic_1 dX6_isIndependent_17 ?_
    refine x_goto 22 dX6_isIndependent_18 rfl ?_
    refine x_zret1 dX6_isIndependent_22 rfl ?_
    exact ⟨by rw [zB_t]; rw [bdB, decide_eq_false (by omega)]; rfl, hc', hf⟩
theorem ba_pf {N : Nat} (hN : N ≤ 9) (p : Nat → Bool) (k t : Nat) (ht : t ≤ 2 ^ N) : ((List.range t).filter (fun s => pc9 s == k && p s)).length ≤ 126 := by
  have hp := pow9 hN
  refine anti126 ⟨List.nodup_range.filter _, fun x hx y hy hxy => ?_⟩ (fun x hx => ?_)
  · rw [List.mem_filter, List.mem_range, Bool.and_eq_true, beq_iff_eq] at hx hy
    have hs := and_sub hxy
    refine Classical.byContradiction (fun e => ?_)
    have : ∃ i, y.testBit i = true ∧ x.testBit i = false := by
      refine Classical.byContradiction (fun z => e ?_)
      apply Nat.eq_of_testBit_eq
      intro i
      cases e1 : x.testBit i with
      | true => rw [hs i e1]
      | false =>
        cases e2 : y.testBit i with
        | false => rfl
        | true => exact absurd ⟨i, e2, e1⟩ z
    obtain ⟨i, i1, i2⟩ := this
    have h1 := pc9_less y (by omega) i (tb_lt (N := 9) (by omega) i1) i1
    have h2 := pc9_sub (x := x) (y := less y i) (by omega) (by have := less_lt (i := i) (N := 9) (show y < 2 ^ 9 by omega); omega) (fun j hj => by
      rw [less_tb, hs j hj]
      simp
      intro z
      subst z
      rw [i2] at hj
      cases hj)
    omega
  · rw [List.mem_filter, List.mem_range] at hx
    omega
set_option maxRecDepth 100000 in
set_option maxHeartbeats 4000000 in
theorem kx_bs_l (B : Nat) (a : Ar) (hs : List Ar) (tx : List Nat) (u0 u1 u2 ck co : Int32) (hB : B < 2147483648) (k : Nat) (hk : k < 5) : ∀ (e t : Nat) (S : amS), t + e = 2 ^ a.2.1 → xCore S B a hs tx u0 u1 u2 ck co → laidA S a.2.1 a.2.2 → LsX S 45 46 ((List.range t).filter (fun s => pc9 s == k && bsB (rkV a.2.2) (ringsB a.2.2 a.2.1 5) s)) → X shX mX0_baseSetsOfSize 14 [.ref 42, .int (nI k), .int (nI t)] [] S (fun r S' => r = some (.ref 45) ∧ xCore S' B a hs tx u0 u1 u2 ck co ∧ laidA S' a.2.1 a.2.2 ∧ LsX S' 45 46 (baL (rkV a.2.2) (ringsB a.2.2 a.2.1 5) a.2.1 k)) := by
  intro e
  induction e with
  | zero =>
    intro t S h1 hc hA' h3
    obtain rfl : t = 2 ^ a.2.1 := by omega
    obtain ⟨⟨hA, ho⟩, hrest, hV⟩ := id hc
    obtain ⟨a1, a2, a3, a4, a5, a6, a7⟩ := id hA
    obtain ⟨m1, m2, m3⟩ := id ho
    have h512 := pow9 a3
    have hpos := Nat.two_pow_pos a.2.1
    have hr9 : ∀ t, t < 2 ^ a.2.1 → rkV a.2.2 t ≤ 9 := fun t ht => Nat.le_trans (rkV_le (by omega)) (pc9_le t (by omega))
    refine x_iload_n dX0_baseSetsOfSize_14 rfl ?_
    refine x_aload_n dX0_baseSetsOfSize_15 rfl ?_
    refine x_getR dX0_baseSetsOfSize_16 fl_X0_31 rfl ?_
    refine x_v0d (N := mX1_all) dX0_baseSetsOfSize_19 ml_X0_64 nv_X1_all rfl rfl (kx_all S a.2.1 a3 m2) ?_
    refine x_icmp_gtN 67 dX0_baseSetsOfSize_22 rfl (by omega) (by omega) (fun c22 => ?_) (fun c22 => ?_)
    · refine x_aload_n dX0_baseSetsOfSize_67 rfl ?_
      refine x_getR dX0_baseSetsOfSize_68 fl_X0_23 rfl ?_
      refine x_aret dX0_baseSetsOfSize_71 rfl (by simp) ?_
      exact ⟨rfl, hc, hA', h3⟩
    · exact absurd c22 (by omega)
  | succ e ih =>
    intro t S h1 hc hA' h3
    obtain ⟨⟨hA, ho⟩, hrest, hV⟩ := id hc
    obtain ⟨a1, a2, a3, a4, a5, a6, a7⟩ := id hA
    obtain ⟨m1, m2, m3⟩ := id ho
    have h512 := pow9 a3
    have hpos := Nat.two_pow_pos a.2.1
    have hr9 : ∀ t, t < 2 ^ a.2.1 → rkV a.2.2 t ≤ 9 := fun t ht => Nat.le_trans (rkV_le (by omega)) (pc9_le t (by omega))
    obtain ⟨x, x1, x2⟩ := hA' t (by omega)
    have hx5 := brOK_lt hA x2
    have hnone := brOK_none hA x2
    have hpc := pc9_le t (by omega)
    have hsn := filter_snoc (fun s => pc9 s == k && bsB (rkV a.2.2) (ringsB a.2.2 a.2.1 5) s) t
    refine x_iload_n dX0_baseSetsOfSize_14 rfl ?_
    refine x_aload_n dX0_baseSetsOfSize_15 rfl ?_
    refine x_getR dX0_baseSetsOfSize_16 fl_X0_31 rfl ?_
    refine x_v0d (N := mX1_all) dX0_baseSetsOfSize_19 ml_X0_64 nv_X1_all rfl rfl (kx_all S a.2.1 a3 m2) ?_
    refine x_icmp_gtN 67 dX0_baseSetsOfSize_22 rfl (by omega) (by omega) (fun c22 => ?_) (fun c22 => ?_)
    · exact absurd c22 (by omega)
    · refine x_iload_n dX0_baseSetsOfSize_25 rfl ?_
      refine x_s1d (N := mJ6_bitCount_0f7a4) dX0_baseSetsOfSize_26 ml_X0_72 ns_J6_bitCount_0f7a4 rfl (kx_bc S t (by omega)) ?_
      refine x_iload_n dX0_baseSetsOfSize_29 rfl ?_
      refine x_icmp_neN 61 dX0_baseSetsOfSize_30 rfl (by omega) (by omega) (fun c30 => ?_) (fun c30 => ?_)
      · refine x_iincN dX0_baseSetsOfSize_61 rfl rfl ?_
        refine x_goto 14 dX0_baseSetsOfSize_64 rfl ?_
        refine ih (t + 1) S (by omega) hc hA' ?_
        rw [hsn, if_neg (by simp; intro z; exact absurd z c30)]
        exact h3
      · refine x_aload_n dX0_baseSetsOfSize_33 rfl ?_
        refine x_getR dX0_baseSetsOfSize_34 fl_X0_9 rfl ?_
        refine x_iload_n dX0_baseSetsOfSize_37 rfl ?_
        refine x_ialdN dX0_baseSetsOfSize_38 rfl rfl (by omega) (x1) ?_
        refine x_if_neN 61 dX0_baseSetsOfSize_39 rfl (by omega) (fun c39 => ?_) (fun c39 => ?_)
        · refine x_iincN dX0_baseSetsOfSize_61 rfl rfl ?_
          refine x_goto 14 dX0_baseSetsOfSize_64 rfl ?_
          refine ih (t + 1) S (by omega) hc hA' ?_
          rw [hsn, if_neg (by unfold bsB; intro z; rw [Bool.and_eq_true, Bool.and_eq_true] at z; exact c39 (hnone.mpr z.2.2))]
          exact h3
        · refine x_aload_n dX0_baseSetsOfSize_42 rfl ?_
          refine x_getR dX0_baseSetsOfSize_43 fl_X0_35 rfl ?_
          refine x_iload_n dX0_baseSetsOfSize_46 rfl ?_
          refine x_v1 (N := mX6_isIndependent) dX0_baseSetsOfSize_47 ml_X0_78 nv_X6_isIndependent rfl rfl (kx_isIndF S B a hs tx u0 u1 u2 ck co hc hB t (by omega)) ?_
          rintro _ S1 ⟨rfl, hc1, f1⟩
          have hA1 := hA'.fo f1 (by decide)
          have h31 := h3.fo f1 (by decide) (by decide)
          refine x_if_eqB 61 dX0_baseSetsOfSize_50 rfl (fun c50 => ?_) (fun c50 => ?_)
          · refine x_iincN dX0_baseSetsOfSize_61 rfl rfl ?_
            refine x_goto 14 dX0_baseSetsOfSize_64 rfl ?_
            refine ih (t + 1) S1 (by omega) hc1 hA1 ?_
            rw [hsn, if_neg (by unfold bsB; rw [c50]; simp)]
            exact h31
          · refine x_aload_n dX0_baseSetsOfSize_53 rfl ?_
            refine x_getR dX0_baseSetsOfSize_54 fl_X0_23 rfl ?_
            refine x_iload_n dX0_baseSetsOfSize_57 rfl ?_
            rw [if_pos (by unfold bsB; rw [c50, c30, hnone.mp c39]; simp)] at hsn
            have hlt : ((List.range t).filter (fun s => pc9 s == k && bsB (rkV a.2.2) (ringsB a.2.2 a.2.1 5) s)).length < 126 := by
              have := ba_pf a3 (bsB (rkV a.2.2) (ringsB a.2.2 a.2.1 5)) k (t + 1) (by omega)
              rw [hsn, List.length_append] at this
              simp only [List.length_singleton] at this
              omega
            refine x_v1 (N := mX4_append) dX0_baseSetsOfSize_58 ml_X0_82 nv_X4_append rfl rfl (kx_app_45 S1 _ h31 hlt t) ?_
            rintro _ S2 ⟨rfl, h4, f2⟩
            refine x_iincN dX0_baseSetsOfSize_61 rfl rfl ?_
            refine x_goto 14 dX0_baseSetsOfSize_64 rfl ?_
            refine ih (t + 1) S2 (by omega) (hc1.scr f2 (by decide) (by decide)) (hA1.fo f2 (by decide)) ?_
            rw [hsn]
            exact h4
set_option maxRecDepth 100000 in
set_option maxHeartbeats 4000000 in
theorem kx_baseSets (S : amS) (B : Nat) (a : Ar) (hs : List Ar) (tx : List Nat) (u0 u1 u2 ck co : Int32) (hc : xCore S B a hs tx u0 u1 u2 ck co) (hB : B < 2147483648) (k : Nat) (hk : k < 5) : X shX mX0_baseSetsOfSize 0 [.ref 42, .int (nI k), .null] [] S (fun r S' => r = some (.ref 45) ∧ xCore S' B a hs tx u0 u1 u2 ck co ∧ laidA S' a.2.1 a.2.2 ∧ LsX S' 45 46 (baL (rkV a.2.2) (ringsB a.2.2 a.2.1 5) a.2.1 k)) := by
  obtain ⟨⟨hA, ho⟩, hrest, hV⟩ := id hc
  obtain ⟨a1, a2, a3, a4, a5, a6, a7⟩ := id hA
  obtain ⟨m1, m2, m3⟩ := id ho
  have h512 := pow9 a3
  have hpos := Nat.two_pow_pos a.2.1
  have hr9 : ∀ t, t < 2 ^ a.2.1 → rkV a.2.2 t ≤ 9 := fun t ht => Nat.le_trans (rkV_le (by omega)) (pc9_le t (by omega))
  refine x_aload_n dX0_baseSetsOfSize_0 rfl ?_
  refine x_v0 (N := mX0_refresh) dX0_baseSetsOfSize_1 ml_X0_71 nv_X0_refresh rfl rfl (kx_arq S B a hs tx u0 u1 u2 ck co hc hB) ?_
  rintro _ S' ⟨rfl, hc', hA'⟩
  refine x_aload_n dX0_baseSetsOfSize_4 rfl ?_
  refine x_getR dX0_baseSetsOfSize_5 fl_X0_23 rfl ?_
  refine x_ic _ ic_0 dX0_baseSetsOfSize_8 ?_
  refine x_put dX0_baseSetsOfSize_9 fp_X0_58 rfl rfl rfl ?_
  refine x_ic _ ic_0 dX0_baseSetsOfSize_12 ?_
  refine x_istore_n dX0_baseSetsOfSize_13 rfl ?_
  have f0 : FO [45] [46] S' (sF S' 45 (upd (S'.1 45) 1 (nI 0))) := (FO.rf _ _ S').sF _ (by simp)
  exact kx_bs_l B a hs tx u0 u1 u2 ck co hB k hk (2 ^ a.2.1) 0 _ (by omega) (hc'.scr f0 (by decide) (by decide)) (hA'.fo f0 (by decide)) ⟨by rw [sF_at, upd_s]; rfl, fun k c hk => by simp at hk⟩
set_option maxRecDepth 100000 in
set_option maxHeartbeats 4000000 in
theorem kx_base_ok (S : amS) (B : Nat) (a : Ar) (hs : List Ar) (tx : List Nat) (u0 u1 u2 ck co : Int32) (hc : xCore S B a hs tx u0 u1 u2 ck co) (hB : B < 2147483648) (k : Nat) (hk : k < 5) (x : Int32) (hx : ¬ x < i32 (-1)) : X shX mX10_base 0 [.ref 0, .int (nI k), .int x] [] S (fun r S' => r = some (.int (lAns (baL (rkV a.2.2) (ringsB a.2.2 a.2.1 5) a.2.1 k) x)) ∧ xCore S' B a hs tx u0 u1 u2 ck co) := by
  obtain ⟨⟨hA, ho⟩, hrest, hV⟩ := id hc
  obtain ⟨a1, a2, a3, a4, a5, a6, a7⟩ := id hA
  obtain ⟨m1, m2, m3⟩ := id ho
  have h512 := pow9 a3
  have hpos := Nat.two_pow_pos a.2.1
  have hr9 : ∀ t, t < 2 ^ a.2.1 → rkV a.2.2 t ≤ 9 := fun t ht => Nat.le_trans (rkV_le (by omega)) (pc9_le t (by omega))
  refine x_iload_n dX10_base_0 rfl ?_
  refine x_topI ?_
  refine x_if_ltI 14 dX10_base_1 rfl (by omega) (fun c1 => ?_) (fun c1 => ?_)
  · exact absurd c1 (by omega)
  · refine x_iload_n dX10_base_4 rfl ?_
    refine x_ic _ ic_4 dX10_base_5 ?_
    refine x_icmp_gtN 14 dX10_base_6 rfl (by omega) (by omega) (fun c6 => ?_) (fun c6 => ?_)
    · exact absurd c6 (by omega)
    · refine x_iload_n dX10_base_9 rfl ?_
      refine x_ic _ ic_m1 dX10_base_10 ?_
      refine x_icmp_ge 21 dX10_base_11 rfl (fun c11 => ?_) (fun c11 => ?_)
      · refine x_aload_n dX10_base_21 rfl ?_
        refine x_getR dX10_base_22 fl_X10_61 rfl ?_
        refine x_iload_n dX10_base_25 rfl ?_
        refine x_v1 (N := mX0_baseSetsOfSize) dX10_base_26 ml_X10_205 nv_X0_baseSetsOfSize rfl rfl (kx_baseSets S B a hs tx u0 u1 u2 ck co hc hB k hk) ?_
        rintro _ S' ⟨rfl, hc', -, hls⟩
        refine x_iload_n dX10_base_29 rfl ?_
        refine x_v1d (N := mX4_answer) dX10_base_30 ml_X10_136 nv_X4_answer rfl rfl (kx_ans_45 S' _ hls (ba_pf a3 (bsB (rkV a.2.2) (ringsB a.2.2 a.2.1 5)) k (2 ^ a.2.1) (Nat.le_refl _)) x hx) ?_
        refine x_iretI dX10_base_33 rfl ?_
        exact ⟨rfl, hc'⟩
      · exact absurd (Int32.not_le.mp c11) hx
set_option maxRecDepth 100000 in
set_option maxHeartbeats 4000000 in
theorem kx_base_bad (S : amS) (B : Nat) (a : Ar) (hs : List Ar) (tx : List Nat) (u0 u1 u2 ck co : Int32) (hc : xCore S B a hs tx u0 u1 u2 ck co) (y x : Int32) (hxy : ¬ (InR y 5 ∧ ¬ x < i32 (-1))) : X shX mX10_base 0 [.ref 0, .int y, .int x] [] S (fun r S' => r = some (.int (i32 (-2))) ∧ xCore S' B a hs tx (u0 + nI 1) u1 u2 ck co) := by
  obtain ⟨⟨hA, ho⟩, hrest, hV⟩ := id hc
  obtain ⟨a1, a2, a3, a4, a5, a6, a7⟩ := id hA
  obtain ⟨m1, m2, m3⟩ := id ho
  have h512 := pow9 a3
  have hpos := Nat.two_pow_pos a.2.1
  have hr9 : ∀ t, t < 2 ^ a.2.1 → rkV a.2.2 t ≤ 9 := fun t ht => Nat.le_trans (rkV_le (by omega)) (pc9_le t (by omega))
  refine x_iload_n dX10_base_0 rfl ?_
  refine x_if_lt 14 dX10_base_1 rfl (fun c1 => ?_) (fun c1 => ?_)
  · refine x_aload_n dX10_base_14 rfl ?_
    refine x_bi _ bi_m2 dX10_base_15 ?_
    refine x_v1 (N := mX10_refused) dX10_base_17 ml_X10_120 nv_X10_refused rfl rfl (kx_bad S B a hs tx u0 u1 u2 ck co hc) ?_
    rintro _ S' ⟨rfl, h'⟩
    refine x_iretI dX10_base_20 rfl ?_
    exact ⟨rfl, h'⟩
  · refine x_iload_n dX10_base_4 rfl ?_
    refine x_ic _ ic_4 dX10_base_5 ?_
    refine x_icmp_gt 14 dX10_base_6 rfl (fun c6 => ?_) (fun c6 => ?_)
    · refine x_aload_n dX10_base_14 rfl ?_
      refine x_bi _ bi_m2 dX10_base_15 ?_
      refine x_v1 (N := mX10_refused) dX10_base_17 ml_X10_120 nv_X10_refused rfl rfl (kx_bad S B a hs tx u0 u1 u2 ck co hc) ?_
      rintro _ S' ⟨rfl, h'⟩
      refine x_iretI dX10_base_20 rfl ?_
      exact ⟨rfl, h'⟩
    · refine x_iload_n dX10_base_9 rfl ?_
      refine x_ic _ ic_m1 dX10_base_10 ?_
      refine x_icmp_ge 21 dX10_base_11 rfl (fun c11 => ?_) (fun c11 => ?_)
      · exact absurd ⟨(in_R y (n := 4) (by omega)).mp (decide_eq_true ⟨Int32.not_lt.mp c1, Int32.not_lt.mp c6⟩), Int32.not_lt.mpr c11⟩ hxy
      · refine x_aload_n dX10_base_14 rfl ?_
        refine x_bi _ bi_m2 dX10_base_15 ?_
        refine x_v1 (N := mX10_refused) dX10_base_17 ml_X10_120 nv_X10_refused rfl rfl (kx_bad S B a hs tx u0 u1 u2 ck co hc) ?_
        rintro _ S' ⟨rfl, h'⟩
        refine x_iretI dX10_base_20 rfl ?_
        exact ⟨rfl, h'⟩
