/-! THE REFERENCE: way -/
theorem waB_tb (v : Nat → Row) (N s : Nat) : ∀ n i, (waB v N s n).testBit i = (decide (i < n) && ptB v N (s ^^^ 2 ^ i)) := by
  intro n
  induction n with
  | zero => intro i; simp [waB]
  | succ n ih =>
    intro i
    rw [waB, Nat.testBit_or, ih]
    by_cases e : i = n
    · subst e
      cases q : ptB v N (s ^^^ 2 ^ i)
      · simp
      · rw [if_pos rfl, Nat.testBit_two_pow]; simp
    · have h1 : decide (i < n + 1) = decide (i < n) := by apply decide_eq_decide.mpr; omega
      rw [h1]
      have : (if ptB v N (s ^^^ 2 ^ n) = true then 2 ^ n else 0).testBit i = false := by
        split
        · rw [Nat.testBit_two_pow]; simp; omega
        · simp
      rw [this, Bool.or_false]
theorem waB_lt (v : Nat → Row) (N s : Nat) : ∀ n, waB v N s n < 2 ^ n := by
  intro n
  induction n with
  | zero => exact Nat.one_pos
  | succ n ih =>
    rw [waB]
    refine Nat.or_lt_two_pow (Nat.lt_of_lt_of_le ih (Nat.pow_le_pow_right (by omega) (by omega))) ?_
    split
    · exact Nat.pow_lt_pow_right (by omega) (by omega)
    · exact Nat.two_pow_pos _
theorem mCore_w {S : amS} {a : Ar} {hs : List Ar} {tx : List Nat} {u0 u1 u2 ck co : Int32} (h : mCore S a hs tx u0 u1 u2 ck co) (o : Nat) (g : Nat → Int32) (ho : o = 15 ∨ o = 16 ∨ o = 17) : mCore (sA S o g) a hs tx u0 u1 u2 ck co := by
  refine h.keep (fun i hi => ?_) (fun k hk => rfl)
  have : i ≠ o := by omega
  simp [sA, va_up, this]
set_option maxRecDepth 100000 in
set_option maxHeartbeats 4000000 in
theorem kF_wallsOf_l (a : Ar) (hs : List Ar) (tx : List Nat) (u0 u1 u2 ck co : Int32) (s : Nat) (hs0 : s < 2 ^ a.2.1) (S0 : amS) : ∀ (e i : Nat) (S : amS), mCore S a hs tx u0 u1 u2 ck co → Fr S0 S → i + e = a.2.1 → X shM mX11_wallsOf 4 [.ref 0, .int (nI s), .int (nI (waB a.2.2 a.2.1 s i)), .int (nI i)] [] S (fun r S' => r = some (.int (nI (waB a.2.2 a.2.1 s a.2.1))) ∧ mCore S' a hs tx u0 u1 u2 ck co ∧ Fr S0 S') := by
  intro e
  induction e with
  | zero =>
    intro i S hc hf h1
    obtain rfl : i = a.2.1 := by omega
    have hA := hc.1.1
    have hm := hc.1.2
    obtain ⟨a1, a2, a3, a4, a5, a6, a7⟩ := id hA
    have h512 := pow9 a3
    have hr9 : ∀ t, t < 2 ^ a.2.1 → rkV a.2.2 t ≤ 9 := fun t ht => Nat.le_trans (rkV_le (by omega)) (pc9_le t (by omega))
    refine x_iload_n dX11_wallsOf_4 rfl ?_
    refine x_aload_n dX11_wallsOf_5 rfl ?_
    refine x_getR dX11_wallsOf_6 fl_X11_7 rfl ?_
    refine x_bi _ bi_37 dX11_wallsOf_9 ?_
    refine x_ialdN dX11_wallsOf_11 rfl rfl (by omega) (hm.2.1) ?_
    refine x_icmp_geN 43 dX11_wallsOf_12 rfl (by omega) (by omega) (fun c12 => ?_) (fun c12 => ?_)
    · refine x_iload_n dX11_wallsOf_43 rfl ?_
      refine x_iretI dX11_wallsOf_44 rfl ?_
      exact ⟨rfl, hc, hf⟩
    · exact absurd c12 (by omega)
  | succ e ih =>
    intro i S hc hf h1
    have hA := hc.1.1
    have hm := hc.1.2
    obtain ⟨a1, a2, a3, a4, a5, a6, a7⟩ := id hA
    have h512 := pow9 a3
    have hr9 : ∀ t, t < 2 ^ a.2.1 → rkV a.2.2 t ≤ 9 := fun t ht => Nat.le_trans (rkV_le (by omega)) (pc9_le t (by omega))
    have hi : i < a.2.1 := by omega
    refine x_iload_n dX11_wallsOf_4 rfl ?_
    refine x_aload_n dX11_wallsOf_5 rfl ?_
    refine x_getR dX11_wallsOf_6 fl_X11_7 rfl ?_
    refine x_bi _ bi_37 dX11_wallsOf_9 ?_
    refine x_ialdN dX11_wallsOf_11 rfl rfl (by omega) (hm.2.1) ?_
    refine x_icmp_geN 43 dX11_wallsOf_12 rfl (by omega) (by omega) (fun c12 => ?_) (fun c12 => ?_)
    · exact absurd c12 (by omega)
    · refine x_iload_n dX11_wallsOf_15 rfl ?_
      refine x_aload_n dX11_wallsOf_16 rfl ?_
      refine x_iload_n dX11_wallsOf_17 rfl ?_
      refine x_ic _ ic_1 dX11_wallsOf_18 ?_
      refine x_iload_n dX11_wallsOf_19 rfl ?_
      refine x_ishl1 dX11_wallsOf_20 (by omega) ?_
      refine x_ixorN dX11_wallsOf_21 ?_
      refine x_v1 (N := mX11_isPart) dX11_wallsOf_22 ml_X11_209 nv_X11_isPart rfl rfl (kF_isPart S a hs tx u0 u1 u2 ck co hc (s ^^^ 2 ^ i) (xor_lt9 hs0 (pow_ltN hi))) ?_
      rintro _ S' ⟨rfl, hc', hl', hf'⟩
      refine x_if_eqB 34 dX11_wallsOf_25 rfl (fun c25 => ?_) (fun c25 => ?_)
      · refine x_ic _ ic_0 dX11_wallsOf_34 ?_
        refine x_iorN dX11_wallsOf_35 ?_
        refine x_istore_n dX11_wallsOf_36 rfl ?_
        refine x_iincN dX11_wallsOf_37 rfl rfl ?_
        refine x_goto 4 dX11_wallsOf_40 rfl ?_
        first | (rw [show waB a.2.2 a.2.1 s i ||| 2 ^ i = waB a.2.2 a.2.1 s (i + 1) from by rw [waB, if_pos c25]]; exact ih (i + 1) S' hc' (hf.tr hf') (by omega)) | (rw [show waB a.2.2 a.2.1 s i ||| 0 = waB a.2.2 a.2.1 s (i + 1) from by rw [waB, if_neg (by rw [c25]; decide)]]; exact ih (i + 1) S' hc' (hf.tr hf') (by omega))
      · refine x_ic _ ic_1 dX11_wallsOf_28 ?_
        refine x_iload_n dX11_wallsOf_29 rfl ?_
        refine x_ishl1 dX11_wallsOf_30 (by omega) ?_
        refine x_goto 35 dX11_wallsOf_31 rfl ?_
        refine x_iorN dX11_wallsOf_35 ?_
        refine x_istore_n dX11_wallsOf_36 rfl ?_
        refine x_iincN dX11_wallsOf_37 rfl rfl ?_
        refine x_goto 4 dX11_wallsOf_40 rfl ?_
        first | (rw [show waB a.2.2 a.2.1 s i ||| 2 ^ i = waB a.2.2 a.2.1 s (i + 1) from by rw [waB, if_pos c25]]; exact ih (i + 1) S' hc' (hf.tr hf') (by omega)) | (rw [show waB a.2.2 a.2.1 s i ||| 0 = waB a.2.2 a.2.1 s (i + 1) from by rw [waB, if_neg (by rw [c25]; decide)]]; exact ih (i + 1) S' hc' (hf.tr hf') (by omega))
set_option maxRecDepth 100000 in
set_option maxHeartbeats 4000000 in
theorem kF_wallsOf (S : amS) (a : Ar) (hs : List Ar) (tx : List Nat) (u0 u1 u2 ck co : Int32) (hc : mCore S a hs tx u0 u1 u2 ck co) (s : Nat) (hs0 : s < 2 ^ a.2.1) : X shM mX11_wallsOf 0 [.ref 0, .int (nI s), .null, .null] [] S (fun r S' => r = some (.int (nI (waB a.2.2 a.2.1 s a.2.1))) ∧ mCore S' a hs tx u0 u1 u2 ck co ∧ Fr S S') := by
  refine x_ic _ ic_0 dX11_wallsOf_0 ?_
  refine x_istore_n dX11_wallsOf_1 rfl ?_
  refine x_ic _ ic_0 dX11_wallsOf_2 ?_
  refine x_istore_n dX11_wallsOf_3 rfl ?_
  exact kF_wallsOf_l a hs tx u0 u1 u2 ck co s hs0 S a.2.1 0 S hc (Fr.rf S) (by omega)
set_option maxRecDepth 100000 in
set_option maxHeartbeats 4000000 in
theorem k_wy_0 (a : Ar) (hs : List Ar) (tx : List Nat) (u0 u1 u2 ck co : Int32) (f t k : Nat) (hf : f < 2 ^ a.2.1) (ht : t < 2 ^ a.2.1) (Q : Option Value → amS → Prop) (hq : ∀ S, mCore S a hs tx u0 u1 u2 ck co → (∀ x, x < 512 → S.2.1 15 x = i32 (-1) ∧ S.2.1 16 x = nI 0) → X shM mX11_way 88 [.ref 0, .int (nI f), .int (nI t), .int (nI k), .int (nI 512), .null, .null, .null, .null, .null] [] S Q) : ∀ (e i : Nat) (S : amS), i + e = 512 → mCore S a hs tx u0 u1 u2 ck co → (∀ x, x < i → S.2.1 15 x = i32 (-1) ∧ S.2.1 16 x = nI 0) → X shM mX11_way 58 [.ref 0, .int (nI f), .int (nI t), .int (nI k), .int (nI i), .null, .null, .null, .null, .null] [] S Q := by
  intro e
  induction e with
  | zero =>
    intro i S h1 hc h2
    obtain rfl : i = 512 := by omega
    refine x_iload dX11_way_58 rfl ?_
    refine x_si _ si_512 dX11_way_60 ?_
    refine x_icmp_geN 88 dX11_way_63 rfl (by omega) (by omega) (fun c63 => ?_) (fun c63 => ?_)
    · exact hq S hc h2
    · exact absurd c63 (by omega)
  | succ e ih =>
    intro i S h1 hc h2
    refine x_iload dX11_way_58 rfl ?_
    refine x_si _ si_512 dX11_way_60 ?_
    refine x_icmp_geN 88 dX11_way_63 rfl (by omega) (by omega) (fun c63 => ?_) (fun c63 => ?_)
    · exact absurd c63 (by omega)
    · refine x_aload_n dX11_way_66 rfl ?_
      refine x_getR dX11_way_67 fl_X11_57 rfl ?_
      refine x_iload dX11_way_70 rfl ?_
      refine x_ic _ ic_m1 dX11_way_72 ?_
      refine x_iastN dX11_way_73 rfl rfl (by omega) ?_
      refine x_aload_n dX11_way_74 rfl ?_
      refine x_getR dX11_way_75 fl_X11_60 rfl ?_
      refine x_iload dX11_way_78 rfl ?_
      refine x_ic _ ic_0 dX11_way_80 ?_
      refine x_iastN dX11_way_81 rfl rfl (by omega) ?_
      refine x_iincN dX11_way_82 rfl rfl ?_
      refine x_goto 58 dX11_way_85 rfl ?_
      refine ih (i + 1) _ (by omega) (mCore_w (mCore_w hc 15 _ (by omega)) 16 _ (by omega)) (fun x hx => ?_)
      rw [sA_at, sA_ne _ _ (by omega), sA_at, sA_ne _ _ (by omega)]
      by_cases e1 : x = i
      · rw [e1, upd_s, upd_s]; exact ⟨rfl, rfl⟩
      · rw [upd_n _ _ e1, upd_n _ _ e1]; exact h2 x (by omega)
set_option maxRecDepth 100000 in
set_option maxHeartbeats 4000000 in
theorem k_wy_b (a : Ar) (hs : List Ar) (tx : List Nat) (u0 u1 u2 ck co : Int32) (f t k : Nat) (hf : f < 2 ^ a.2.1) (ht : t < 2 ^ a.2.1) (hpf : ptB a.2.2 a.2.1 f = true) (Q : Option Value → amS → Prop) (S : amS) (hc : mCore S a hs tx u0 u1 u2 ck co) (L : List Nat) (h i x : Nat) (hi : i < a.2.1) (B : BF (ptB a.2.2 a.2.1) a.2.1 f (S.2.1 15) (S.2.1 16) (S.2.1 17) L h i) (hx : L[h]? = some x) (hin : ptB a.2.2 a.2.1 (x ^^^ 2 ^ i) = true → x ^^^ 2 ^ i ∈ L) (hq : ∀ S', mCore S' a hs tx u0 u1 u2 ck co → BF (ptB a.2.2 a.2.1) a.2.1 f (S'.2.1 15) (S'.2.1 16) (S'.2.1 17) L h (i + 1) → X shM mX11_way 142 [.ref 0, .int (nI f), .int (nI t), .int (nI k), .int (nI L.length), .int (nI h), .int (nI x), .int (nI (waB a.2.2 a.2.1 x a.2.1)), .int (nI (i + 1)), .int (nI (x ^^^ 2 ^ i))] [] S' Q) : X shM mX11_way 212 [.ref 0, .int (nI f), .int (nI t), .int (nI k), .int (nI L.length), .int (nI h), .int (nI x), .int (nI (waB a.2.2 a.2.1 x a.2.1)), .int (nI i), .int (nI (x ^^^ 2 ^ i))] [] S Q := by
  obtain ⟨a1, a2, a3, a4, a5, a6, a7⟩ := id hc.1.1
  have hm := hc.1.2
  have h512 := pow9 a3
  have hnear : ∀ r, r < 2 ^ a.2.1 → ptB a.2.2 a.2.1 r = true → r ≠ f → ∃ i, i < a.2.1 ∧ (f ^^^ r).testBit i = true ∧ ptB a.2.2 a.2.1 (r ^^^ 2 ^ i) = true := fun r hr h1 hne => near hc.1.1 hr hf h1 hpf hne
  obtain ⟨x1, x2⟩ := B.b2' x (getE_mem hx)
  have hy : x ^^^ 2 ^ i < 2 ^ a.2.1 := Nat.xor_lt_two_pow x1 (pow_ltN hi)
  have hwl := waB_lt a.2.2 a.2.1 x a.2.1
  have hwt : (waB a.2.2 a.2.1 x a.2.1).testBit i = ptB a.2.2 a.2.1 (x ^^^ 2 ^ i) := by rw [waB_tb, decide_eq_true hi, Bool.true_and]
  have d9 : ∀ y, y < 2 ^ a.2.1 → dl f y ≤ 9 := fun y hy => pc9_le _ (by have := Nat.xor_lt_two_pow hf hy; omega)
  have dx := d9 x x1
  have dy := d9 _ hy
  refine x_aload_n dX11_way_212 rfl ?_
  refine x_getR dX11_way_213 fl_X11_60 rfl ?_
  refine x_iload dX11_way_216 rfl ?_
  refine x_dup2 dX11_way_218 rfl rfl ?_
  refine x_ialdN dX11_way_219 rfl rfl (by omega) (rfl) ?_
  refine x_iload dX11_way_220 rfl ?_
  refine x_iload dX11_way_222 rfl ?_
  refine x_s2d (N := mX11_has) dX11_way_224 ml_X11_97 ns_X11_has rfl (k_has S (waB a.2.2 a.2.1 x a.2.1) i (by omega) (by omega)) ?_
  refine x_if_eqB 259 dX11_way_227 rfl (fun c227 => ?_) (fun c227 => ?_)
  · rw [hwt] at c227
    refine x_ic _ ic_0 dX11_way_259 ?_
    refine x_iadd dX11_way_260 ?_
    refine x_iastN dX11_way_261 rfl rfl (by omega) ?_
    refine x_iincN dX11_way_262 rfl rfl ?_
    refine x_goto 142 dX11_way_265 rfl ?_
    refine hq _ (mCore_w hc 16 _ (by omega)) ?_
    have B2 := B.did (w := nI 0) a3 hf hpf hx hi hin (by rw [if_neg (fun q => by rw [c227] at q; exact absurd q.1 (by decide))])
    rw [sA_at, sA_ne _ _ (by omega), sA_ne _ _ (by omega)]
    exact B2
  · rw [hwt] at c227
    refine x_aload_n dX11_way_230 rfl ?_
    refine x_getR dX11_way_231 fl_X11_57 rfl ?_
    refine x_iload dX11_way_234 rfl ?_
    refine x_ialdN dX11_way_236 rfl rfl (by omega) (B.b3 _ (hin c227)) ?_
    refine x_aload_n dX11_way_237 rfl ?_
    refine x_getR dX11_way_238 fl_X11_57 rfl ?_
    refine x_iload dX11_way_241 rfl ?_
    refine x_ialdN dX11_way_243 rfl rfl (by omega) (B.b3 x (getE_mem hx)) ?_
    refine x_ic _ ic_1 dX11_way_244 ?_
    refine x_iaddN dX11_way_245 ?_
    refine x_icmp_neN 259 dX11_way_246 rfl (by omega) (by omega) (fun c246 => ?_) (fun c246 => ?_)
    · refine x_ic _ ic_0 dX11_way_259 ?_
      refine x_iadd dX11_way_260 ?_
      refine x_iastN dX11_way_261 rfl rfl (by omega) ?_
      refine x_iincN dX11_way_262 rfl rfl ?_
      refine x_goto 142 dX11_way_265 rfl ?_
      refine hq _ (mCore_w hc 16 _ (by omega)) ?_
      have B2 := B.did (w := nI 0) a3 hf hpf hx hi hin (by rw [if_neg (fun q => c246 q.2)])
      rw [sA_at, sA_ne _ _ (by omega), sA_ne _ _ (by omega)]
      exact B2
    · refine x_aload_n dX11_way_249 rfl ?_
      refine x_getR dX11_way_250 fl_X11_60 rfl ?_
      refine x_iload dX11_way_253 rfl ?_
      refine x_ialdN dX11_way_255 rfl rfl (by omega) (B.head a3 hf hpf hnear hx) ?_
      refine x_goto 260 dX11_way_256 rfl ?_
      refine x_iadd dX11_way_260 ?_
      refine x_iastN dX11_way_261 rfl rfl (by omega) ?_
      refine x_iincN dX11_way_262 rfl rfl ?_
      refine x_goto 142 dX11_way_265 rfl ?_
      refine hq _ (mCore_w hc 16 _ (by omega)) ?_
      have B2 := B.did (w := nI (ga (ptB a.2.2 a.2.1) f (f ^^^ x))) a3 hf hpf hx hi hin (by rw [if_pos ⟨c227, c246⟩])
      rw [sA_at, sA_ne _ _ (by omega), sA_ne _ _ (by omega)]
      exact B2
set_option maxRecDepth 100000 in
set_option maxHeartbeats 4000000 in
theorem k_wy_n (a : Ar) (hs : List Ar) (tx : List Nat) (u0 u1 u2 ck co : Int32) (f t k : Nat) (hf : f < 2 ^ a.2.1) (ht : t < 2 ^ a.2.1) (hpf : ptB a.2.2 a.2.1 f = true) (Q : Option Value → amS → Prop) (h x : Nat) (hq : ∀ S L z, mCore S a hs tx u0 u1 u2 ck co → BF (ptB a.2.2 a.2.1) a.2.1 f (S.2.1 15) (S.2.1 16) (S.2.1 17) L h a.2.1 → L[h]? = some x → X shM mX11_way 268 [.ref 0, .int (nI f), .int (nI t), .int (nI k), .int (nI L.length), .int (nI h), .int (nI x), .int (nI (waB a.2.2 a.2.1 x a.2.1)), .int (nI a.2.1), z] [] S Q) : ∀ (e i : Nat) (S : amS) (L : List Nat) (z : Value), i + e = a.2.1 → mCore S a hs tx u0 u1 u2 ck co → BF (ptB a.2.2 a.2.1) a.2.1 f (S.2.1 15) (S.2.1 16) (S.2.1 17) L h i → L[h]? = some x → X shM mX11_way 142 [.ref 0, .int (nI f), .int (nI t), .int (nI k), .int (nI L.length), .int (nI h), .int (nI x), .int (nI (waB a.2.2 a.2.1 x a.2.1)), .int (nI i), z] [] S Q := by
  intro e
  induction e with
  | zero =>
    intro i S L z h1 hc B hx
    obtain rfl : i = a.2.1 := by omega
    have a3 := hc.1.1.2.2.1
    have hm := hc.1.2
    refine x_iload dX11_way_142 rfl ?_
    refine x_aload_n dX11_way_144 rfl ?_
    refine x_getR dX11_way_145 fl_X11_7 rfl ?_
    refine x_bi _ bi_37 dX11_way_148 ?_
    refine x_ialdN dX11_way_150 rfl rfl (by omega) (hm.2.1) ?_
    refine x_icmp_geN 268 dX11_way_151 rfl (by omega) (by omega) (fun c151 => ?_) (fun c151 => ?_)
    · exact hq S L z hc B hx
    · exact absurd c151 (by omega)
  | succ e ih =>
    intro i S L z h1 hc B hx
    have hi : i < a.2.1 := by omega
    obtain ⟨a1, a2, a3, a4, a5, a6, a7⟩ := id hc.1.1
    have hm := hc.1.2
    have h512 := pow9 a3
    have hnear : ∀ r, r < 2 ^ a.2.1 → ptB a.2.2 a.2.1 r = true → r ≠ f → ∃ i, i < a.2.1 ∧ (f ^^^ r).testBit i = true ∧ ptB a.2.2 a.2.1 (r ^^^ 2 ^ i) = true := fun r hr h1 hne => near hc.1.1 hr hf h1 hpf hne
    obtain ⟨x1, x2⟩ := B.b2' x (getE_mem hx)
    have hy : x ^^^ 2 ^ i < 2 ^ a.2.1 := Nat.xor_lt_two_pow x1 (pow_ltN hi)
    have hwl := waB_lt a.2.2 a.2.1 x a.2.1
    have hwt : (waB a.2.2 a.2.1 x a.2.1).testBit i = ptB a.2.2 a.2.1 (x ^^^ 2 ^ i) := by rw [waB_tb, decide_eq_true hi, Bool.true_and]
    have d9 : ∀ y, y < 2 ^ a.2.1 → dl f y ≤ 9 := fun y hy => pc9_le _ (by have := Nat.xor_lt_two_pow hf hy; omega)
    have dx := d9 x x1
    have dy := d9 _ hy
    have hl9 := B.len
    refine x_iload dX11_way_142 rfl ?_
    refine x_aload_n dX11_way_144 rfl ?_
    refine x_getR dX11_way_145 fl_X11_7 rfl ?_
    refine x_bi _ bi_37 dX11_way_148 ?_
    refine x_ialdN dX11_way_150 rfl rfl (by omega) (hm.2.1) ?_
    refine x_icmp_geN 268 dX11_way_151 rfl (by omega) (by omega) (fun c151 => ?_) (fun c151 => ?_)
    · exact absurd c151 (by omega)
    · refine x_iload dX11_way_154 rfl ?_
      refine x_ic _ ic_1 dX11_way_156 ?_
      refine x_iload dX11_way_157 rfl ?_
      refine x_ishl1 dX11_way_159 (by omega) ?_
      refine x_ixorN dX11_way_160 ?_
      refine x_istore dX11_way_161 rfl ?_
      refine x_iload dX11_way_163 rfl ?_
      refine x_iload dX11_way_165 rfl ?_
      refine x_s2d (N := mX11_has) dX11_way_167 ml_X11_97 ns_X11_has rfl (k_has S (waB a.2.2 a.2.1 x a.2.1) i (by omega) (by omega)) ?_
      refine x_if_eqB 212 dX11_way_170 rfl (fun c170 => ?_) (fun c170 => ?_)
      · rw [hwt] at c170
        exact k_wy_b a hs tx u0 u1 u2 ck co f t k hf ht hpf Q S hc L h i x hi B hx (fun q => absurd (c170.symm.trans q) (by decide)) (fun S3 hc3 B3 => ih (i + 1) S3 L _ (by omega) hc3 B3 hx)
      · rw [hwt] at c170
        by_cases hmem : x ^^^ 2 ^ i ∈ L
        · refine x_aload_n dX11_way_173 rfl ?_
          refine x_getR dX11_way_174 fl_X11_57 rfl ?_
          refine x_iload dX11_way_177 rfl ?_
          refine x_ialdN dX11_way_179 rfl rfl (by omega) (((B.b3 _ hmem).trans (nI_i32 _))) ?_
          refine x_ic _ ic_m1 dX11_way_180 ?_
          refine x_icmp_neI 212 dX11_way_181 rfl (by omega) (by omega) (fun c181 => ?_) (fun c181 => ?_)
          · exact k_wy_b a hs tx u0 u1 u2 ck co f t k hf ht hpf Q S hc L h i x hi B hx (fun _ => hmem) (fun S3 hc3 B3 => ih (i + 1) S3 L _ (by omega) hc3 B3 hx)
          · exact absurd c181 (by omega)
        · obtain ⟨hd, hlt, B2⟩ := B.new a3 hf hnear hx hi c170 hmem
          have hx2 : (L ++ [x ^^^ 2 ^ i])[h]? = some x := by rw [List.getElem?_append_left (getE_lt hx)]; exact hx
          refine x_aload_n dX11_way_173 rfl ?_
          refine x_getR dX11_way_174 fl_X11_57 rfl ?_
          refine x_iload dX11_way_177 rfl ?_
          refine x_ialdN dX11_way_179 rfl rfl (by omega) (B.b3' _ hy hmem) ?_
          refine x_ic _ ic_m1 dX11_way_180 ?_
          refine x_icmp_neI 212 dX11_way_181 rfl (by omega) (by omega) (fun c181 => ?_) (fun c181 => ?_)
          · exact absurd rfl c181
          · refine x_aload_n dX11_way_184 rfl ?_
            refine x_getR dX11_way_185 fl_X11_57 rfl ?_
            refine x_iload dX11_way_188 rfl ?_
            refine x_aload_n dX11_way_190 rfl ?_
            refine x_getR dX11_way_191 fl_X11_57 rfl ?_
            refine x_iload dX11_way_194 rfl ?_
            refine x_ialdN dX11_way_196 rfl rfl (by omega) (B.b3 x (getE_mem hx)) ?_
            refine x_ic _ ic_1 dX11_way_197 ?_
            refine x_iaddN dX11_way_198 ?_
            refine x_iastN dX11_way_199 rfl rfl (by omega) ?_
            refine x_aload_n dX11_way_200 rfl ?_
            refine x_getR dX11_way_201 fl_X11_63 rfl ?_
            refine x_iload dX11_way_204 rfl ?_
            refine x_iload dX11_way_206 rfl ?_
            refine x_iastN dX11_way_208 rfl rfl (by omega) ?_
            refine x_iincN dX11_way_209 rfl rfl ?_
            have e2 : L.length + 1 = (L ++ [x ^^^ 2 ^ i]).length := by rw [List.length_append, List.length_singleton]
            rw [e2]
            refine k_wy_b a hs tx u0 u1 u2 ck co f t k hf ht hpf Q _ (mCore_w (mCore_w hc 15 _ (by omega)) 17 _ (by omega)) (L ++ [x ^^^ 2 ^ i]) h i x hi ?_ hx2 (fun _ => List.mem_append.mpr (Or.inr (List.mem_singleton.mpr rfl))) (fun S3 hc3 B3 => ih (i + 1) S3 _ _ (by omega) hc3 B3 hx2)
            rw [sA_at, sA_ne _ _ (by omega), sA_at, sA_ne _ _ (by omega), sA_ne _ _ (by omega), sA_ne _ _ (by omega), ← hd]
            exact B2
set_option maxRecDepth 100000 in
set_option maxHeartbeats 4000000 in
theorem k_wy_o (a : Ar) (hs : List Ar) (tx : List Nat) (u0 u1 u2 ck co : Int32) (f t k : Nat) (hf : f < 2 ^ a.2.1) (ht : t < 2 ^ a.2.1) (hpf : ptB a.2.2 a.2.1 f = true) (Q : Option Value → amS → Prop) (hq : ∀ S L z6 z7 z8 z9, mCore S a hs tx u0 u1 u2 ck co → BF (ptB a.2.2 a.2.1) a.2.1 f (S.2.1 15) (S.2.1 16) (S.2.1 17) L L.length 0 → X shM mX11_way 274 [.ref 0, .int (nI f), .int (nI t), .int (nI k), .int (nI L.length), .int (nI L.length), z6, z7, z8, z9] [] S Q) : ∀ (e h : Nat) (S : amS) (L : List Nat) (z6 z7 z8 z9 : Value), h + e = 2 ^ a.2.1 → h ≤ L.length → mCore S a hs tx u0 u1 u2 ck co → BF (ptB a.2.2 a.2.1) a.2.1 f (S.2.1 15) (S.2.1 16) (S.2.1 17) L h 0 → X shM mX11_way 115 [.ref 0, .int (nI f), .int (nI t), .int (nI k), .int (nI L.length), .int (nI h), z6, z7, z8, z9] [] S Q := by
  intro e
  induction e with
  | zero =>
    intro h S L z6 z7 z8 z9 h1 hle hc B
    have h512 := pow9 hc.1.1.2.2.1
    have hlen := B.len
    obtain rfl : h = L.length := by omega
    refine x_iload dX11_way_115 rfl ?_
    refine x_iload dX11_way_117 rfl ?_
    refine x_icmp_geN 274 dX11_way_119 rfl (by omega) (by omega) (fun c119 => ?_) (fun c119 => ?_)
    · exact hq S L z6 z7 z8 z9 hc B
    · exact absurd c119 (by omega)
  | succ e ih =>
    intro h S L z6 z7 z8 z9 h1 hle hc B
    have h512 := pow9 hc.1.1.2.2.1
    have hlen := B.len
    refine x_iload dX11_way_115 rfl ?_
    refine x_iload dX11_way_117 rfl ?_
    refine x_icmp_geN 274 dX11_way_119 rfl (by omega) (by omega) (fun c119 => ?_) (fun c119 => ?_)
    · obtain rfl : h = L.length := by omega
      exact hq S L z6 z7 z8 z9 hc B
    · have hx : L[h]? = some L[h] := List.getElem?_eq_getElem (by omega)
      generalize L[h] = x at hx
      obtain ⟨x1, x2⟩ := B.b2' x (getE_mem hx)
      refine x_aload_n dX11_way_122 rfl ?_
      refine x_getR dX11_way_123 fl_X11_63 rfl ?_
      refine x_iload dX11_way_126 rfl ?_
      refine x_ialdN dX11_way_128 rfl rfl (by omega) (B.b1 h x hx) ?_
      refine x_istore dX11_way_129 rfl ?_
      refine x_aload_n dX11_way_131 rfl ?_
      refine x_iload dX11_way_132 rfl ?_
      refine x_v1 (N := mX11_wallsOf) dX11_way_134 ml_X11_212 nv_X11_wallsOf rfl rfl (kF_wallsOf S a hs tx u0 u1 u2 ck co hc x x1) ?_
      rintro _ S' ⟨rfl, hc', hf'⟩
      refine x_istore dX11_way_137 rfl ?_
      refine x_ic _ ic_0 dX11_way_139 ?_
      refine x_istore dX11_way_140 rfl ?_
      refine k_wy_n a hs tx u0 u1 u2 ck co f t k hf ht hpf Q h x (fun S2 L2 z hc2 B2 hx2 => ?_) a.2.1 0 S' L _ (by omega) hc' ?_ hx
      · refine x_iincN dX11_way_268 rfl rfl ?_
        refine x_goto 115 dX11_way_271 rfl ?_
        have := getE_lt hx2
        exact ih (h + 1) S2 L2 _ _ _ _ (by omega) (by omega) hc2 (B2.next (by omega))
      · rw [hf'.2.1 15 (by omega) (by omega) (by omega) (by omega), hf'.2.1 16 (by omega) (by omega) (by omega) (by omega), hf'.2.1 17 (by omega) (by omega) (by omega) (by omega)]
        exact B
set_option maxRecDepth 100000 in
set_option maxHeartbeats 4000000 in
theorem k_way_bad (S : amS) (a : Ar) (hs : List Ar) (tx : List Nat) (u0 u1 u2 ck co : Int32) (hc : mCore S a hs tx u0 u1 u2 ck co) (x y z : Int32) (hx : ¬ (InR x (2 ^ a.2.1) ∧ InR y (2 ^ a.2.1) ∧ InR z 2)) : X shM mX11_way 0 [.ref 0, .int x, .int y, .int z, .null, .null, .null, .null, .null, .null] [] S (fun r S' => r = some (.int (i32 (-2))) ∧ mCore S' a hs tx (u0 + nI 1) u1 u2 ck co) := by
  have hA := hc.1.1
  have hm := hc.1.2
  obtain ⟨a1, a2, a3, a4, a5, a6, a7⟩ := id hA
  have h512 := pow9 a3
  have hr9 : ∀ t, t < 2 ^ a.2.1 → rkV a.2.2 t ≤ 9 := fun t ht => Nat.le_trans (rkV_le (by omega)) (pc9_le t (by omega))
  have hpos := Nat.two_pow_pos a.2.1
  refine x_aload_n dX11_way_0 rfl ?_
  refine x_iload_n dX11_way_1 rfl ?_
  refine x_v1d (N := mX11_isSet) dX11_way_2 ml_X11_193 nv_X11_isSet rfl rfl (k_isSet S a.2.1 a3 hm.2.1 _) ?_
  refine x_if_eqB 25 dX11_way_5 rfl (fun c5 => ?_) (fun c5 => ?_)
  · refine x_aload_n dX11_way_25 rfl ?_
    refine x_bi _ bi_m2 dX11_way_26 ?_
    refine x_v1 (N := mX11_refuses) dX11_way_28 ml_X11_89 nv_X11_refuses rfl rfl (k_bad S a hs tx u0 u1 u2 ck co hc) ?_
    rintro _ S' ⟨rfl, hc'⟩
    refine x_iretI dX11_way_31 rfl ?_
    exact ⟨rfl, hc'⟩
  · refine x_aload_n dX11_way_8 rfl ?_
    refine x_iload_n dX11_way_9 rfl ?_
    refine x_v1d (N := mX11_isSet) dX11_way_10 ml_X11_193 nv_X11_isSet rfl rfl (k_isSet S a.2.1 a3 hm.2.1 _) ?_
    refine x_if_eqB 25 dX11_way_13 rfl (fun c13 => ?_) (fun c13 => ?_)
    · refine x_aload_n dX11_way_25 rfl ?_
      refine x_bi _ bi_m2 dX11_way_26 ?_
      refine x_v1 (N := mX11_refuses) dX11_way_28 ml_X11_89 nv_X11_refuses rfl rfl (k_bad S a hs tx u0 u1 u2 ck co hc) ?_
      rintro _ S' ⟨rfl, hc'⟩
      refine x_iretI dX11_way_31 rfl ?_
      exact ⟨rfl, hc'⟩
    · refine x_iload_n dX11_way_16 rfl ?_
      refine x_ic _ ic_0 dX11_way_17 ?_
      refine x_ic _ ic_1 dX11_way_18 ?_
      refine x_s3d (N := mX11_in) dX11_way_19 ml_X11_113 ns_X11_in rfl (k_in S _ _ _) ?_
      refine x_if_neB 32 dX11_way_22 rfl (fun c22 => ?_) (fun c22 => ?_)
      · rw [in_R _ (by omega), show 2 ^ a.2.1 - 1 + 1 = 2 ^ a.2.1 by omega] at c5 c13
        rw [in_R _ (by omega)] at c22
        exact absurd ⟨c5, c13, c22⟩ hx
      · refine x_aload_n dX11_way_25 rfl ?_
        refine x_bi _ bi_m2 dX11_way_26 ?_
        refine x_v1 (N := mX11_refuses) dX11_way_28 ml_X11_89 nv_X11_refuses rfl rfl (k_bad S a hs tx u0 u1 u2 ck co hc) ?_
        rintro _ S' ⟨rfl, hc'⟩
        refine x_iretI dX11_way_31 rfl ?_
        exact ⟨rfl, hc'⟩
set_option maxRecDepth 100000 in
set_option maxHeartbeats 4000000 in
theorem k_way_no (S : amS) (a : Ar) (hs : List Ar) (tx : List Nat) (u0 u1 u2 ck co : Int32) (hc : mCore S a hs tx u0 u1 u2 ck co) (f t k : Nat) (hf : f < 2 ^ a.2.1) (ht : t < 2 ^ a.2.1) (hk : k < 2) (hn : ¬ (ptB a.2.2 a.2.1 f = true ∧ ptB a.2.2 a.2.1 t = true)) : X shM mX11_way 0 [.ref 0, .int (nI f), .int (nI t), .int (nI k), .null, .null, .null, .null, .null, .null] [] S (fun r S' => r = some (.int (i32 (-3))) ∧ mCore S' a hs tx u0 (u1 + nI 1) u2 ck co) := by
  have hA := hc.1.1
  have hm := hc.1.2
  obtain ⟨a1, a2, a3, a4, a5, a6, a7⟩ := id hA
  have h512 := pow9 a3
  have hr9 : ∀ t, t < 2 ^ a.2.1 → rkV a.2.2 t ≤ 9 := fun t ht => Nat.le_trans (rkV_le (by omega)) (pc9_le t (by omega))
  have hpos := Nat.two_pow_pos a.2.1
  refine x_aload_n dX11_way_0 rfl ?_
  refine x_iload_n dX11_way_1 rfl ?_
  refine x_v1d (N := mX11_isSet) dX11_way_2 ml_X11_193 nv_X11_isSet rfl rfl (k_isSet S a.2.1 a3 hm.2.1 _) ?_
  refine x_if_eqB 25 dX11_way_5 rfl (fun c5 => ?_) (fun c5 => ?_)
  · rw [Bool.eq_false_iff, ne_eq, in_R _ (by omega), show 2 ^ a.2.1 - 1 + 1 = 2 ^ a.2.1 by omega] at c5
    exact absurd (InR_in hf) c5
  · refine x_aload_n dX11_way_8 rfl ?_
    refine x_iload_n dX11_way_9 rfl ?_
    refine x_v1d (N := mX11_isSet) dX11_way_10 ml_X11_193 nv_X11_isSet rfl rfl (k_isSet S a.2.1 a3 hm.2.1 _) ?_
    refine x_if_eqB 25 dX11_way_13 rfl (fun c13 => ?_) (fun c13 => ?_)
    · rw [Bool.eq_false_iff, ne_eq, in_R _ (by omega), show 2 ^ a.2.1 - 1 + 1 = 2 ^ a.2.1 by omega] at c13
      exact absurd (InR_in ht) c13
    · refine x_iload_n dX11_way_16 rfl ?_
      refine x_ic _ ic_0 dX11_way_17 ?_
      refine x_ic _ ic_1 dX11_way_18 ?_
      refine x_s3d (N := mX11_in) dX11_way_19 ml_X11_113 ns_X11_in rfl (k_in S _ _ _) ?_
      refine x_if_neB 32 dX11_way_22 rfl (fun c22 => ?_) (fun c22 => ?_)
      · refine x_aload_n dX11_way_32 rfl ?_
        refine x_iload_n dX11_way_33 rfl ?_
        refine x_v1 (N := mX11_isPart) dX11_way_34 ml_X11_209 nv_X11_isPart rfl rfl (k_isPart S a hs tx u0 u1 u2 ck co hc f hf) ?_
        rintro _ S1 ⟨rfl, h1⟩
        refine x_if_eqB 48 dX11_way_37 rfl (fun c37 => ?_) (fun c37 => ?_)
        · refine x_aload_n dX11_way_48 rfl ?_
          refine x_bi _ bi_m3 dX11_way_49 ?_
          refine x_v1 (N := mX11_refuses) dX11_way_51 ml_X11_89 nv_X11_refuses rfl rfl (k_no S1 a hs tx u0 u1 u2 ck co h1) ?_
          rintro _ S3 ⟨rfl, h3⟩
          refine x_iretI dX11_way_54 rfl ?_
          exact ⟨rfl, h3⟩
        · refine x_aload_n dX11_way_40 rfl ?_
          refine x_iload_n dX11_way_41 rfl ?_
          refine x_v1 (N := mX11_isPart) dX11_way_42 ml_X11_209 nv_X11_isPart rfl rfl (k_isPart S1 a hs tx u0 u1 u2 ck co h1 t ht) ?_
          rintro _ S2 ⟨rfl, h2⟩
          refine x_if_neB 55 dX11_way_45 rfl (fun c45 => ?_) (fun c45 => ?_)
          · exact absurd ⟨c37, c45⟩ hn
          · refine x_aload_n dX11_way_48 rfl ?_
            refine x_bi _ bi_m3 dX11_way_49 ?_
            refine x_v1 (N := mX11_refuses) dX11_way_51 ml_X11_89 nv_X11_refuses rfl rfl (k_no S2 a hs tx u0 u1 u2 ck co h2) ?_
            rintro _ S3 ⟨rfl, h3⟩
            refine x_iretI dX11_way_54 rfl ?_
            exact ⟨rfl, h3⟩
      · rw [Bool.eq_false_iff, ne_eq, in_R _ (by omega)] at c22
        exact absurd (InR_in hk) c22
set_option maxRecDepth 100000 in
set_option maxHeartbeats 4000000 in
theorem k_way_0 (S : amS) (a : Ar) (hs : List Ar) (tx : List Nat) (u0 u1 u2 ck co : Int32) (hc : mCore S a hs tx u0 u1 u2 ck co) (f t : Nat) (hf : f < 2 ^ a.2.1) (ht : t < 2 ^ a.2.1) (h1f : ptB a.2.2 a.2.1 f = true) (h1t : ptB a.2.2 a.2.1 t = true) : X shM mX11_way 0 [.ref 0, .int (nI f), .int (nI t), .int (nI 0), .null, .null, .null, .null, .null, .null] [] S (fun r S' => r = some (.int (nI (dl f t))) ∧ mCore S' a hs tx u0 u1 u2 ck co) := by
  have hA := hc.1.1
  have hm := hc.1.2
  obtain ⟨a1, a2, a3, a4, a5, a6, a7⟩ := id hA
  have h512 := pow9 a3
  have hr9 : ∀ t, t < 2 ^ a.2.1 → rkV a.2.2 t ≤ 9 := fun t ht => Nat.le_trans (rkV_le (by omega)) (pc9_le t (by omega))
  have hpos := Nat.two_pow_pos a.2.1
  have hnear : ∀ r, r < 2 ^ a.2.1 → ptB a.2.2 a.2.1 r = true → r ≠ f → ∃ i, i < a.2.1 ∧ (f ^^^ r).testBit i = true ∧ ptB a.2.2 a.2.1 (r ^^^ 2 ^ i) = true := fun r hr h1 hne => near hc.1.1 hr hf h1 h1f hne
  refine x_aload_n dX11_way_0 rfl ?_
  refine x_iload_n dX11_way_1 rfl ?_
  refine x_v1d (N := mX11_isSet) dX11_way_2 ml_X11_193 nv_X11_isSet rfl rfl (k_isSet S a.2.1 a3 hm.2.1 _) ?_
  refine x_if_eqB 25 dX11_way_5 rfl (fun c5 => ?_) (fun c5 => ?_)
  · rw [Bool.eq_false_iff, ne_eq, in_R _ (by omega), show 2 ^ a.2.1 - 1 + 1 = 2 ^ a.2.1 by omega] at c5
    exact absurd (InR_in hf) c5
  · refine x_aload_n dX11_way_8 rfl ?_
    refine x_iload_n dX11_way_9 rfl ?_
    refine x_v1d (N := mX11_isSet) dX11_way_10 ml_X11_193 nv_X11_isSet rfl rfl (k_isSet S a.2.1 a3 hm.2.1 _) ?_
    refine x_if_eqB 25 dX11_way_13 rfl (fun c13 => ?_) (fun c13 => ?_)
    · rw [Bool.eq_false_iff, ne_eq, in_R _ (by omega), show 2 ^ a.2.1 - 1 + 1 = 2 ^ a.2.1 by omega] at c13
      exact absurd (InR_in ht) c13
    · refine x_iload_n dX11_way_16 rfl ?_
      refine x_ic _ ic_0 dX11_way_17 ?_
      refine x_ic _ ic_1 dX11_way_18 ?_
      refine x_s3d (N := mX11_in) dX11_way_19 ml_X11_113 ns_X11_in rfl (k_in S _ _ _) ?_
      refine x_if_neB 32 dX11_way_22 rfl (fun c22 => ?_) (fun c22 => ?_)
      · refine x_aload_n dX11_way_32 rfl ?_
        refine x_iload_n dX11_way_33 rfl ?_
        refine x_v1 (N := mX11_isPart) dX11_way_34 ml_X11_209 nv_X11_isPart rfl rfl (k_isPart S a hs tx u0 u1 u2 ck co hc f hf) ?_
        rintro _ S1 ⟨rfl, h1⟩
        refine x_if_eqB 48 dX11_way_37 rfl (fun c37 => ?_) (fun c37 => ?_)
        · rw [h1f] at c37; cases c37
        · refine x_aload_n dX11_way_40 rfl ?_
          refine x_iload_n dX11_way_41 rfl ?_
          refine x_v1 (N := mX11_isPart) dX11_way_42 ml_X11_209 nv_X11_isPart rfl rfl (k_isPart S1 a hs tx u0 u1 u2 ck co h1 t ht) ?_
          rintro _ S2 ⟨rfl, h2⟩
          refine x_if_neB 55 dX11_way_45 rfl (fun c45 => ?_) (fun c45 => ?_)
          · refine x_ic _ ic_0 dX11_way_55 ?_
            refine x_istore dX11_way_56 rfl ?_
            refine k_wy_0 a hs tx u0 u1 u2 ck co f t 0 hf ht _ (fun S4 hc4 h4 => ?_) 512 0 S2 rfl h2 (fun x hx => absurd hx (Nat.not_lt_zero _))
            refine x_aload_n dX11_way_88 rfl ?_
            refine x_getR dX11_way_89 fl_X11_57 rfl ?_
            refine x_iload_n dX11_way_92 rfl ?_
            refine x_ic _ ic_0 dX11_way_93 ?_
            refine x_iastN dX11_way_94 rfl rfl (by omega) ?_
            refine x_aload_n dX11_way_95 rfl ?_
            refine x_getR dX11_way_96 fl_X11_60 rfl ?_
            refine x_iload_n dX11_way_99 rfl ?_
            refine x_ic _ ic_1 dX11_way_100 ?_
            refine x_iastN dX11_way_101 rfl rfl (by omega) ?_
            refine x_aload_n dX11_way_102 rfl ?_
            refine x_getR dX11_way_103 fl_X11_63 rfl ?_
            refine x_ic _ ic_0 dX11_way_106 ?_
            refine x_iload_n dX11_way_107 rfl ?_
            refine x_iastN dX11_way_108 rfl rfl (by omega) ?_
            refine x_ic _ ic_1 dX11_way_109 ?_
            refine x_istore dX11_way_110 rfl ?_
            refine x_ic _ ic_0 dX11_way_112 ?_
            refine x_istore dX11_way_113 rfl ?_
            have B4 := BF.start (qu := S4.2.1 17) (pt := ptB a.2.2 a.2.1) hf h1f (fun x hx => (h4 x (by omega)).1) (fun x hx => (h4 x (by omega)).2)
            refine k_wy_o a hs tx u0 u1 u2 ck co f t 0 hf ht h1f _ (fun S9 L9 z6 z7 z8 z9 hc9 B9 => ?_) (2 ^ a.2.1) 0 _ [f] _ _ _ _ (by omega) (by simp) (mCore_w (mCore_w (mCore_w hc4 15 _ (by omega)) 16 _ (by omega)) 17 _ (by omega)) ?_
            · refine x_iload_n dX11_way_274 rfl ?_
              refine x_if_neN 287 dX11_way_275 rfl (by omega) (fun c275 => ?_) (fun c275 => ?_)
              · exact absurd rfl c275
              · refine x_aload_n dX11_way_278 rfl ?_
                refine x_getR dX11_way_279 fl_X11_57 rfl ?_
                refine x_iload_n dX11_way_282 rfl ?_
                refine x_ialdN dX11_way_283 rfl rfl (by omega) ((B9.fin a3 hf h1f hnear ht h1t).1) ?_
                refine x_goto 293 dX11_way_284 rfl ?_
                refine x_iretI dX11_way_293 rfl ?_
                exact ⟨rfl, hc9⟩
            · simp only [sA_at, sA_ne _ _ (show (15 : Nat) ≠ 17 by omega), sA_ne _ _ (show (15 : Nat) ≠ 16 by omega), sA_ne _ _ (show (16 : Nat) ≠ 17 by omega), sA_ne _ _ (show (16 : Nat) ≠ 15 by omega), sA_ne _ _ (show (17 : Nat) ≠ 15 by omega), sA_ne _ _ (show (17 : Nat) ≠ 16 by omega)]
              exact B4
          · rw [h1t] at c45; cases c45
      · rw [Bool.eq_false_iff, ne_eq, in_R _ (by omega)] at c22
        exact absurd (InR_in (show 0 < 2 by omega)) c22
set_option maxRecDepth 100000 in
set_option maxHeartbeats 4000000 in
theorem k_way_1 (S : amS) (a : Ar) (hs : List Ar) (tx : List Nat) (u0 u1 u2 ck co : Int32) (hc : mCore S a hs tx u0 u1 u2 ck co) (f t : Nat) (hf : f < 2 ^ a.2.1) (ht : t < 2 ^ a.2.1) (h1f : ptB a.2.2 a.2.1 f = true) (h1t : ptB a.2.2 a.2.1 t = true) : X shM mX11_way 0 [.ref 0, .int (nI f), .int (nI t), .int (nI 1), .null, .null, .null, .null, .null, .null] [] S (fun r S' => r = some (.int (nI (ga (ptB a.2.2 a.2.1) f (f ^^^ t)))) ∧ mCore S' a hs tx u0 u1 u2 ck co) := by
  have hA := hc.1.1
  have hm := hc.1.2
  obtain ⟨a1, a2, a3, a4, a5, a6, a7⟩ := id hA
  have h512 := pow9 a3
  have hr9 : ∀ t, t < 2 ^ a.2.1 → rkV a.2.2 t ≤ 9 := fun t ht => Nat.le_trans (rkV_le (by omega)) (pc9_le t (by omega))
  have hpos := Nat.two_pow_pos a.2.1
  have hnear : ∀ r, r < 2 ^ a.2.1 → ptB a.2.2 a.2.1 r = true → r ≠ f → ∃ i, i < a.2.1 ∧ (f ^^^ r).testBit i = true ∧ ptB a.2.2 a.2.1 (r ^^^ 2 ^ i) = true := fun r hr h1 hne => near hc.1.1 hr hf h1 h1f hne
  refine x_aload_n dX11_way_0 rfl ?_
  refine x_iload_n dX11_way_1 rfl ?_
  refine x_v1d (N := mX11_isSet) dX11_way_2 ml_X11_193 nv_X11_isSet rfl rfl (k_isSet S a.2.1 a3 hm.2.1 _) ?_
  refine x_if_eqB 25 dX11_way_5 rfl (fun c5 => ?_) (fun c5 => ?_)
  · rw [Bool.eq_false_iff, ne_eq, in_R _ (by omega), show 2 ^ a.2.1 - 1 + 1 = 2 ^ a.2.1 by omega] at c5
    exact absurd (InR_in hf) c5
  · refine x_aload_n dX11_way_8 rfl ?_
    refine x_iload_n dX11_way_9 rfl ?_
    refine x_v1d (N := mX11_isSet) dX11_way_10 ml_X11_193 nv_X11_isSet rfl rfl (k_isSet S a.2.1 a3 hm.2.1 _) ?_
    refine x_if_eqB 25 dX11_way_13 rfl (fun c13 => ?_) (fun c13 => ?_)
    · rw [Bool.eq_false_iff, ne_eq, in_R _ (by omega), show 2 ^ a.2.1 - 1 + 1 = 2 ^ a.2.1 by omega] at c13
      exact absurd (InR_in ht) c13
    · refine x_iload_n dX11_way_16 rfl ?_
      refine x_ic _ ic_0 dX11_way_17 ?_
      refine x_ic _ ic_1 dX11_way_18 ?_
      refine x_s3d (N := mX11_in) dX11_way_19 ml_X11_113 ns_X11_in rfl (k_in S _ _ _) ?_
      refine x_if_neB 32 dX11_way_22 rfl (fun c22 => ?_) (fun c22 => ?_)
      · refine x_aload_n dX11_way_32 rfl ?_
        refine x_iload_n dX11_way_33 rfl ?_
        refine x_v1 (N := mX11_isPart) dX11_way_34 ml_X11_209 nv_X11_isPart rfl rfl (k_isPart S a hs tx u0 u1 u2 ck co hc f hf) ?_
        rintro _ S1 ⟨rfl, h1⟩
        refine x_if_eqB 48 dX11_way_37 rfl (fun c37 => ?_) (fun c37 => ?_)
        · rw [h1f] at c37; cases c37
        · refine x_aload_n dX11_way_40 rfl ?_
          refine x_iload_n dX11_way_41 rfl ?_
          refine x_v1 (N := mX11_isPart) dX11_way_42 ml_X11_209 nv_X11_isPart rfl rfl (k_isPart S1 a hs tx u0 u1 u2 ck co h1 t ht) ?_
          rintro _ S2 ⟨rfl, h2⟩
          refine x_if_neB 55 dX11_way_45 rfl (fun c45 => ?_) (fun c45 => ?_)
          · refine x_ic _ ic_0 dX11_way_55 ?_
            refine x_istore dX11_way_56 rfl ?_
            refine k_wy_0 a hs tx u0 u1 u2 ck co f t 1 hf ht _ (fun S4 hc4 h4 => ?_) 512 0 S2 rfl h2 (fun x hx => absurd hx (Nat.not_lt_zero _))
            refine x_aload_n dX11_way_88 rfl ?_
            refine x_getR dX11_way_89 fl_X11_57 rfl ?_
            refine x_iload_n dX11_way_92 rfl ?_
            refine x_ic _ ic_0 dX11_way_93 ?_
            refine x_iastN dX11_way_94 rfl rfl (by omega) ?_
            refine x_aload_n dX11_way_95 rfl ?_
            refine x_getR dX11_way_96 fl_X11_60 rfl ?_
            refine x_iload_n dX11_way_99 rfl ?_
            refine x_ic _ ic_1 dX11_way_100 ?_
            refine x_iastN dX11_way_101 rfl rfl (by omega) ?_
            refine x_aload_n dX11_way_102 rfl ?_
            refine x_getR dX11_way_103 fl_X11_63 rfl ?_
            refine x_ic _ ic_0 dX11_way_106 ?_
            refine x_iload_n dX11_way_107 rfl ?_
            refine x_iastN dX11_way_108 rfl rfl (by omega) ?_
            refine x_ic _ ic_1 dX11_way_109 ?_
            refine x_istore dX11_way_110 rfl ?_
            refine x_ic _ ic_0 dX11_way_112 ?_
            refine x_istore dX11_way_113 rfl ?_
            have B4 := BF.start (qu := S4.2.1 17) (pt := ptB a.2.2 a.2.1) hf h1f (fun x hx => (h4 x (by omega)).1) (fun x hx => (h4 x (by omega)).2)
            refine k_wy_o a hs tx u0 u1 u2 ck co f t 1 hf ht h1f _ (fun S9 L9 z6 z7 z8 z9 hc9 B9 => ?_) (2 ^ a.2.1) 0 _ [f] _ _ _ _ (by omega) (by simp) (mCore_w (mCore_w (mCore_w hc4 15 _ (by omega)) 16 _ (by omega)) 17 _ (by omega)) ?_
            · refine x_iload_n dX11_way_274 rfl ?_
              refine x_if_neN 287 dX11_way_275 rfl (by omega) (fun c275 => ?_) (fun c275 => ?_)
              · refine x_aload_n dX11_way_287 rfl ?_
                refine x_getR dX11_way_288 fl_X11_60 rfl ?_
                refine x_iload_n dX11_way_291 rfl ?_
                refine x_ialdN dX11_way_292 rfl rfl (by omega) ((B9.fin a3 hf h1f hnear ht h1t).2) ?_
                refine x_iretI dX11_way_293 rfl ?_
                exact ⟨rfl, hc9⟩
              · exact absurd c275 (by omega)
            · simp only [sA_at, sA_ne _ _ (show (15 : Nat) ≠ 17 by omega), sA_ne _ _ (show (15 : Nat) ≠ 16 by omega), sA_ne _ _ (show (16 : Nat) ≠ 17 by omega), sA_ne _ _ (show (16 : Nat) ≠ 15 by omega), sA_ne _ _ (show (17 : Nat) ≠ 15 by omega), sA_ne _ _ (show (17 : Nat) ≠ 16 by omega)]
              exact B4
          · rw [h1t] at c45; cases c45
      · rw [Bool.eq_false_iff, ne_eq, in_R _ (by omega)] at c22
        exact absurd (InR_in (show 1 < 2 by omega)) c22
