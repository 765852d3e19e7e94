/-! THE REFERENCE: digest -/
def dgF (h : Int64) (l : List Int32) : Int64 := l.foldl (fun h v => 31 * h + v.toInt64) h
theorem dgF_app (h : Int64) (l m : List Int32) : dgF h (l ++ m) = dgF (dgF h l) m := by simp [dgF]
theorem dgF_one (h : Int64) (x : Int32) : dgF h [x] = 31 * h + x.toInt64 := rfl
theorem dgF_snoc (h : Int64) (l : List Int32) (x : Int32) : dgF h (l ++ [x]) = 31 * dgF h l + x.toInt64 := by rw [dgF_app, dgF_one]
theorem map_snoc {α : Type} (f : Nat → α) (k : Nat) : (List.range (k + 1)).map f = (List.range k).map f ++ [f k] := by rw [List.range_succ, List.map_append]; rfl
noncomputable def dgT (a : Ar) (hs : List Ar) (tx : List Nat) (u0 u1 u2 ck co : Int32) : List Int32 := [u0, u1, u2, nI tx.length, nI a.1, nI a.2.1, nI (rkV a.2.2 (2 ^ a.2.1 - 1)), nI hs.length, ck, co]
def dgR (a : Ar) (i : Nat) : List Int32 := (List.range a.1).map (fun j => i32 (a.2.2 i j + (10 : Nat)))
def dgC (a : Ar) : List Int32 := (List.range a.2.1).flatMap (dgR a)
noncomputable def dgL (a : Ar) : List Int32 := (List.range 5).map (fun k => nI (flL (rkV a.2.2) a.2.1 k).length) ++ ((List.range 5).map (fun j => i32 (polB (rkV a.2.2) a.1 (2 ^ a.2.1 - 1) j (2 ^ a.2.1) + (1000 : Nat))) ++ ([nI (ringsB a.2.2 a.2.1 5).length, nI (regL a.2.2 a.2.1).length] ++ (List.range 5).map (fun k => nI (baL (rkV a.2.2) (ringsB a.2.2 a.2.1 5) a.2.1 k).length)))
noncomputable def dgA (a : Ar) (hs : List Ar) (tx : List Nat) (u0 u1 u2 ck co : Int32) : Int64 := dgF 2351 (dgT a hs tx u0 u1 u2 ck co ++ (dgC a ++ dgL a))
def DG (S : amS) (a : Ar) (hs : List Ar) (tx : List Nat) (u0 u1 u2 ck co : Int32) (H : Int64) : Prop := mCore S a hs tx u0 u1 u2 ck co ∧ S.2.2.1 0 32 = H
theorem DG.fr {S S' : amS} {a : Ar} {hs : List Ar} {tx : List Nat} {u0 u1 u2 ck co : Int32} {H : Int64} (h : DG S a hs tx u0 u1 u2 ck co H) (hf : Fr S S') (hc : mCore S' a hs tx u0 u1 u2 ck co) : DG S' a hs tx u0 u1 u2 ck co H := ⟨hc, by rw [hf.2.2]; exact h.2⟩
set_option maxRecDepth 100000 in
set_option maxHeartbeats 4000000 in
theorem k_mix (S : amS) (v : Int32) : X shM mX11_mix 0 [.ref 0, .int v] [] S (fun r S' => r = none ∧ S' = sG S 0 (vp_updL (S.2.2.1 0) 32 (31 * S.2.2.1 0 32 + v.toInt64))) := by
  refine x_aload_n dX11_mix_0 rfl ?_
  refine x_ldc2 cn_X11_293 dX11_mix_1 ?_
  refine x_aload_n dX11_mix_4 rfl ?_
  refine x_getL dX11_mix_5 fl_X11_295 rfl ?_
  refine x_lmul dX11_mix_8 ?_
  refine x_iload_n dX11_mix_9 rfl ?_
  refine x_i2l dX11_mix_10 ?_
  refine x_ladd dX11_mix_11 ?_
  refine x_putl dX11_mix_12 fp_X11_295 rfl ?_
  refine x_ret dX11_mix_15 rfl ?_
  exact ⟨rfl, rfl⟩
theorem k_mixq (S : amS) (a : Ar) (hs : List Ar) (tx : List Nat) (u0 u1 u2 ck co : Int32) (H : Int64) (h : DG S a hs tx u0 u1 u2 ck co H) (v : Int32) : X shM mX11_mix 0 [.ref 0, .int v] [] S (fun r S' => r = none ∧ DG S' a hs tx u0 u1 u2 ck co (31 * H + v.toInt64) ∧ (laidM S a.2.1 a.2.2 → laidM S' a.2.1 a.2.2)) := by
  refine x_mono ?_ (k_mix S v)
  rintro _ _ ⟨rfl, rfl⟩
  refine ⟨rfl, ⟨h.1.keep (fun i hi => rfl) (fun k hk => rfl), ?_⟩, fun z => z⟩
  show vp_updL (S.2.2.1 0) 32 (31 * S.2.2.1 0 32 + v.toInt64) 32 = _
  rw [h.2]
  simp [vp_updL]
set_option maxRecDepth 100000 in
set_option maxHeartbeats 4000000 in
theorem kF_told_0 (S : amS) (a : Ar) (hs : List Ar) (tx : List Nat) (u0 u1 u2 ck co : Int32) (hc : mCore S a hs tx u0 u1 u2 ck co) : X shM mX11_toldOf 0 [.ref 0, .int (nI 0)] [] S (fun r S' => r = some (.int (u0)) ∧ S' = S) := by
  have hA := hc.1.1
  have hm := hc.1.2
  obtain ⟨a1, a2, a3, a4, a5, a6, a7⟩ := id hA
  have h512 := pow9 a3
  have hr9 : ∀ t, t < 2 ^ a.2.1 → rkV a.2.2 t ≤ 9 := fun t ht => Nat.le_trans (rkV_le (by omega)) (pc9_le t (by omega))
  have hpos := Nat.two_pow_pos a.2.1
  refine x_iload_n dX11_toldOf_0 rfl ?_
  refine x_tableOut 76 dX11_toldOf_1 (Or.inl (by decide)) rfl ?_
  refine x_aload_n dX11_toldOf_76 rfl ?_
  refine x_getR dX11_toldOf_77 fl_X11_19 rfl ?_
  refine x_iload_n dX11_toldOf_80 rfl ?_
  refine x_ialdN dX11_toldOf_81 rfl rfl (by omega) (hc.2.2.1.1) ?_
  refine x_iretI dX11_toldOf_82 rfl ?_
  exact ⟨rfl, rfl⟩
set_option maxRecDepth 100000 in
set_option maxHeartbeats 4000000 in
theorem kF_told_1 (S : amS) (a : Ar) (hs : List Ar) (tx : List Nat) (u0 u1 u2 ck co : Int32) (hc : mCore S a hs tx u0 u1 u2 ck co) : X shM mX11_toldOf 0 [.ref 0, .int (nI 1)] [] S (fun r S' => r = some (.int (u1)) ∧ S' = S) := by
  have hA := hc.1.1
  have hm := hc.1.2
  obtain ⟨a1, a2, a3, a4, a5, a6, a7⟩ := id hA
  have h512 := pow9 a3
  have hr9 : ∀ t, t < 2 ^ a.2.1 → rkV a.2.2 t ≤ 9 := fun t ht => Nat.le_trans (rkV_le (by omega)) (pc9_le t (by omega))
  have hpos := Nat.two_pow_pos a.2.1
  refine x_iload_n dX11_toldOf_0 rfl ?_
  refine x_tableOut 76 dX11_toldOf_1 (Or.inl (by decide)) rfl ?_
  refine x_aload_n dX11_toldOf_76 rfl ?_
  refine x_getR dX11_toldOf_77 fl_X11_19 rfl ?_
  refine x_iload_n dX11_toldOf_80 rfl ?_
  refine x_ialdN dX11_toldOf_81 rfl rfl (by omega) (hc.2.2.1.2.1) ?_
  refine x_iretI dX11_toldOf_82 rfl ?_
  exact ⟨rfl, rfl⟩
set_option maxRecDepth 100000 in
set_option maxHeartbeats 4000000 in
theorem kF_told_2 (S : amS) (a : Ar) (hs : List Ar) (tx : List Nat) (u0 u1 u2 ck co : Int32) (hc : mCore S a hs tx u0 u1 u2 ck co) : X shM mX11_toldOf 0 [.ref 0, .int (nI 2)] [] S (fun r S' => r = some (.int (u2)) ∧ S' = S) := by
  have hA := hc.1.1
  have hm := hc.1.2
  obtain ⟨a1, a2, a3, a4, a5, a6, a7⟩ := id hA
  have h512 := pow9 a3
  have hr9 : ∀ t, t < 2 ^ a.2.1 → rkV a.2.2 t ≤ 9 := fun t ht => Nat.le_trans (rkV_le (by omega)) (pc9_le t (by omega))
  have hpos := Nat.two_pow_pos a.2.1
  refine x_iload_n dX11_toldOf_0 rfl ?_
  refine x_tableOut 76 dX11_toldOf_1 (Or.inl (by decide)) rfl ?_
  refine x_aload_n dX11_toldOf_76 rfl ?_
  refine x_getR dX11_toldOf_77 fl_X11_19 rfl ?_
  refine x_iload_n dX11_toldOf_80 rfl ?_
  refine x_ialdN dX11_toldOf_81 rfl rfl (by omega) (hc.2.2.1.2.2) ?_
  refine x_iretI dX11_toldOf_82 rfl ?_
  exact ⟨rfl, rfl⟩
set_option maxRecDepth 100000 in
set_option maxHeartbeats 4000000 in
theorem kF_told_3 (S : amS) (a : Ar) (hs : List Ar) (tx : List Nat) (u0 u1 u2 ck co : Int32) (hc : mCore S a hs tx u0 u1 u2 ck co) : X shM mX11_toldOf 0 [.ref 0, .int (nI 3)] [] S (fun r S' => r = some (.int (nI tx.length)) ∧ S' = S) := by
  have hA := hc.1.1
  have hm := hc.1.2
  obtain ⟨a1, a2, a3, a4, a5, a6, a7⟩ := id hA
  have h512 := pow9 a3
  have hr9 : ∀ t, t < 2 ^ a.2.1 → rkV a.2.2 t ≤ 9 := fun t ht => Nat.le_trans (rkV_le (by omega)) (pc9_le t (by omega))
  have hpos := Nat.two_pow_pos a.2.1
  refine x_iload_n dX11_toldOf_0 rfl ?_
  refine x_tableIn 36 dX11_toldOf_1 (by decide) (by decide) (off := 35) (by decide) rfl ?_
  refine x_aload_n dX11_toldOf_36 rfl ?_
  refine x_getIV dX11_toldOf_37 fl_X11_246 rfl (hc.2.2.2.1.1) ?_
  refine x_iretI dX11_toldOf_40 rfl ?_
  exact ⟨rfl, rfl⟩
set_option maxRecDepth 100000 in
set_option maxHeartbeats 4000000 in
theorem kF_told_4 (S : amS) (a : Ar) (hs : List Ar) (tx : List Nat) (u0 u1 u2 ck co : Int32) (hc : mCore S a hs tx u0 u1 u2 ck co) : X shM mX11_toldOf 0 [.ref 0, .int (nI 4)] [] S (fun r S' => r = some (.int (nI a.1)) ∧ S' = S) := by
  have hA := hc.1.1
  have hm := hc.1.2
  obtain ⟨a1, a2, a3, a4, a5, a6, a7⟩ := id hA
  have h512 := pow9 a3
  have hr9 : ∀ t, t < 2 ^ a.2.1 → rkV a.2.2 t ≤ 9 := fun t ht => Nat.le_trans (rkV_le (by omega)) (pc9_le t (by omega))
  have hpos := Nat.two_pow_pos a.2.1
  refine x_iload_n dX11_toldOf_0 rfl ?_
  refine x_tableIn 41 dX11_toldOf_1 (by decide) (by decide) (off := 40) (by decide) rfl ?_
  refine x_aload_n dX11_toldOf_41 rfl ?_
  refine x_getR dX11_toldOf_42 fl_X11_7 rfl ?_
  refine x_bi _ bi_36 dX11_toldOf_45 ?_
  refine x_ialdN dX11_toldOf_47 rfl rfl (by omega) (hm.1) ?_
  refine x_iretI dX11_toldOf_48 rfl ?_
  exact ⟨rfl, rfl⟩
set_option maxRecDepth 100000 in
set_option maxHeartbeats 4000000 in
theorem kF_told_5 (S : amS) (a : Ar) (hs : List Ar) (tx : List Nat) (u0 u1 u2 ck co : Int32) (hc : mCore S a hs tx u0 u1 u2 ck co) : X shM mX11_toldOf 0 [.ref 0, .int (nI 5)] [] S (fun r S' => r = some (.int (nI a.2.1)) ∧ S' = S) := by
  have hA := hc.1.1
  have hm := hc.1.2
  obtain ⟨a1, a2, a3, a4, a5, a6, a7⟩ := id hA
  have h512 := pow9 a3
  have hr9 : ∀ t, t < 2 ^ a.2.1 → rkV a.2.2 t ≤ 9 := fun t ht => Nat.le_trans (rkV_le (by omega)) (pc9_le t (by omega))
  have hpos := Nat.two_pow_pos a.2.1
  refine x_iload_n dX11_toldOf_0 rfl ?_
  refine x_tableIn 49 dX11_toldOf_1 (by decide) (by decide) (off := 48) (by decide) rfl ?_
  refine x_aload_n dX11_toldOf_49 rfl ?_
  refine x_getR dX11_toldOf_50 fl_X11_7 rfl ?_
  refine x_bi _ bi_37 dX11_toldOf_53 ?_
  refine x_ialdN dX11_toldOf_55 rfl rfl (by omega) (hm.2.1) ?_
  refine x_iretI dX11_toldOf_56 rfl ?_
  exact ⟨rfl, rfl⟩
set_option maxRecDepth 100000 in
set_option maxHeartbeats 4000000 in
theorem kF_told_6 (S : amS) (a : Ar) (hs : List Ar) (tx : List Nat) (u0 u1 u2 ck co : Int32) (hc : mCore S a hs tx u0 u1 u2 ck co) : X shM mX11_toldOf 0 [.ref 0, .int (nI 6)] [] S (fun r S' => r = some (.int (nI (rkV a.2.2 (2 ^ a.2.1 - 1)))) ∧ mCore S' a hs tx u0 u1 u2 ck co ∧ laidM S' a.2.1 a.2.2 ∧ Fr S S') := by
  have hA := hc.1.1
  have hm := hc.1.2
  obtain ⟨a1, a2, a3, a4, a5, a6, a7⟩ := id hA
  have h512 := pow9 a3
  have hr9 : ∀ t, t < 2 ^ a.2.1 → rkV a.2.2 t ≤ 9 := fun t ht => Nat.le_trans (rkV_le (by omega)) (pc9_le t (by omega))
  have hpos := Nat.two_pow_pos a.2.1
  refine x_iload_n dX11_toldOf_0 rfl ?_
  refine x_tableIn 57 dX11_toldOf_1 (by decide) (by decide) (off := 56) (by decide) rfl ?_
  refine x_aload_n dX11_toldOf_57 rfl ?_
  refine x_v0 (N := mX11_lay) dX11_toldOf_58 ml_X11_187 nv_X11_lay rfl rfl (k_layq S a hs tx u0 u1 u2 ck co hc) ?_
  rintro _ S' ⟨rfl, hc', hl, hf⟩
  refine x_aload_n dX11_toldOf_61 rfl ?_
  refine x_getR dX11_toldOf_62 fl_X11_29 rfl ?_
  refine x_aload_n dX11_toldOf_65 rfl ?_
  refine x_v0d (N := mX11_all) dX11_toldOf_66 ml_X11_109 nv_X11_all rfl rfl (k_all S' a.2.1 a3 hc'.1.2.2.1) ?_
  refine x_ialdN dX11_toldOf_69 rfl rfl (by omega) (hl.1 _ (by omega)) ?_
  refine x_iretI dX11_toldOf_70 rfl ?_
  exact ⟨rfl, hc', hl, hf⟩
set_option maxRecDepth 100000 in
set_option maxHeartbeats 4000000 in
theorem kF_told_7 (S : amS) (a : Ar) (hs : List Ar) (tx : List Nat) (u0 u1 u2 ck co : Int32) (hc : mCore S a hs tx u0 u1 u2 ck co) : X shM mX11_toldOf 0 [.ref 0, .int (nI 7)] [] S (fun r S' => r = some (.int (nI hs.length)) ∧ S' = S) := by
  have hA := hc.1.1
  have hm := hc.1.2
  obtain ⟨a1, a2, a3, a4, a5, a6, a7⟩ := id hA
  have h512 := pow9 a3
  have hr9 : ∀ t, t < 2 ^ a.2.1 → rkV a.2.2 t ≤ 9 := fun t ht => Nat.le_trans (rkV_le (by omega)) (pc9_le t (by omega))
  have hpos := Nat.two_pow_pos a.2.1
  refine x_iload_n dX11_toldOf_0 rfl ?_
  refine x_tableIn 71 dX11_toldOf_1 (by decide) (by decide) (off := 70) (by decide) rfl ?_
  refine x_aload_n dX11_toldOf_71 rfl ?_
  refine x_getIV dX11_toldOf_72 fl_X11_82 rfl (hc.2.1.1) ?_
  refine x_iretI dX11_toldOf_75 rfl ?_
  exact ⟨rfl, rfl⟩
set_option maxRecDepth 100000 in
set_option maxHeartbeats 4000000 in
theorem k_dg_f (a : Ar) (hs : List Ar) (tx : List Nat) (u0 u1 u2 ck co : Int32) (H : Int64) (z2 : Value) (Q : Option Value → amS → Prop) (hq : ∀ S, DG S a hs tx u0 u1 u2 ck co (dgF H ((List.range 5).map (fun k => nI (flL (rkV a.2.2) a.2.1 k).length))) → laidM S a.2.1 a.2.2 → X shM mX11_digest 124 [.ref 0, .int (nI 5), z2] [] S Q) : ∀ (e k : Nat) (S : amS), k + e = 5 → DG S a hs tx u0 u1 u2 ck co (dgF H ((List.range k).map (fun k => nI (flL (rkV a.2.2) a.2.1 k).length))) → laidM S a.2.1 a.2.2 → X shM mX11_digest 103 [.ref 0, .int (nI k), z2] [] S Q := by
  intro e
  induction e with
  | zero =>
    intro k S h1 h hl0
    obtain rfl : k = 5 := by omega
    refine x_iload_n dX11_digest_103 rfl ?_
    refine x_ic _ ic_5 dX11_digest_104 ?_
    refine x_icmp_geN 124 dX11_digest_105 rfl (by omega) (by omega) (fun c105 => ?_) (fun c105 => ?_)
    · exact hq S h hl0
    · exact absurd c105 (by omega)
  | succ e ih =>
    intro k S h1 h hl0
    have hA := h.1.1.1
    obtain ⟨a1, a2, a3, a4, a5, a6, a7⟩ := id hA
    have hm := h.1.1.2
    have h512 := pow9 a3
    have hpos := Nat.two_pow_pos a.2.1
    refine x_iload_n dX11_digest_103 rfl ?_
    refine x_ic _ ic_5 dX11_digest_104 ?_
    refine x_icmp_geN 124 dX11_digest_105 rfl (by omega) (by omega) (fun c105 => ?_) (fun c105 => ?_)
    · exact absurd c105 (by omega)
    · refine x_aload_n dX11_digest_108 rfl ?_
      refine x_aload_n dX11_digest_109 rfl ?_
      refine x_iload_n dX11_digest_110 rfl ?_
      refine x_ic _ ic_m1 dX11_digest_111 ?_
      refine x_v2 (N := mX11_flatOf) dX11_digest_112 ml_X11_202 nv_X11_flatOf rfl rfl (kF_flat S a hs tx u0 u1 u2 ck co h.1 k (by omega) (i32 (-1)) (by rw [i32_lt (by omega) (by omega)]; omega)) ?_
      rintro _ S' ⟨rfl, hc', hl, hf⟩
      have h' := h.fr hf hc'
      refine x_v1 (N := mX11_mix) dX11_digest_115 ml_X11_301 nv_X11_mix rfl rfl (k_mixq S' a hs tx u0 u1 u2 ck co _ h' _) ?_
      rintro _ S2 ⟨rfl, hd2, hl2⟩
      refine x_iincN dX11_digest_118 rfl rfl ?_
      refine x_goto 103 dX11_digest_121 rfl ?_
      refine ih (k + 1) S2 (by omega) ?_ (hl2 hl)
      rw [map_snoc, dgF_snoc]
      rw [lAns_cnt] at hd2
      exact hd2
set_option maxRecDepth 100000 in
set_option maxHeartbeats 4000000 in
theorem k_dg_p (a : Ar) (hs : List Ar) (tx : List Nat) (u0 u1 u2 ck co : Int32) (H : Int64) (z2 : Value) (Q : Option Value → amS → Prop) (hq : ∀ S, DG S a hs tx u0 u1 u2 ck co (dgF H ((List.range 5).map (fun j => i32 (polB (rkV a.2.2) a.1 (2 ^ a.2.1 - 1) j (2 ^ a.2.1) + (1000 : Nat))))) → laidM S a.2.1 a.2.2 → X shM mX11_digest 154 [.ref 0, .int (nI 5), z2] [] S Q) : ∀ (e k : Nat) (S : amS), k + e = 5 → DG S a hs tx u0 u1 u2 ck co (dgF H ((List.range k).map (fun j => i32 (polB (rkV a.2.2) a.1 (2 ^ a.2.1 - 1) j (2 ^ a.2.1) + (1000 : Nat))))) → laidM S a.2.1 a.2.2 → X shM mX11_digest 126 [.ref 0, .int (nI k), z2] [] S Q := by
  intro e
  induction e with
  | zero =>
    intro k S h1 h hl0
    obtain rfl : k = 5 := by omega
    refine x_iload_n dX11_digest_126 rfl ?_
    refine x_ic _ ic_5 dX11_digest_127 ?_
    refine x_icmp_geN 154 dX11_digest_128 rfl (by omega) (by omega) (fun c128 => ?_) (fun c128 => ?_)
    · exact hq S h hl0
    · exact absurd c128 (by omega)
  | succ e ih =>
    intro k S h1 h hl0
    have hA := h.1.1.1
    obtain ⟨a1, a2, a3, a4, a5, a6, a7⟩ := id hA
    have hm := h.1.1.2
    have h512 := pow9 a3
    have hpos := Nat.two_pow_pos a.2.1
    refine x_iload_n dX11_digest_126 rfl ?_
    refine x_ic _ ic_5 dX11_digest_127 ?_
    refine x_icmp_geN 154 dX11_digest_128 rfl (by omega) (by omega) (fun c128 => ?_) (fun c128 => ?_)
    · exact absurd c128 (by omega)
    · refine x_aload_n dX11_digest_131 rfl ?_
      refine x_aload_n dX11_digest_132 rfl ?_
      refine x_aload_n dX11_digest_133 rfl ?_
      refine x_v0d (N := mX11_all) dX11_digest_134 ml_X11_109 nv_X11_all rfl rfl (k_all S a.2.1 a3 hm.2.1) ?_
      refine x_iload_n dX11_digest_137 rfl ?_
      refine x_v2 (N := mX11_polynomialOf) dX11_digest_138 ml_X11_205 nv_X11_polynomialOf rfl rfl (kF_poly S a hs tx u0 u1 u2 ck co h.1 (2 ^ a.2.1 - 1) k (by omega) (by omega)) ?_
      rintro _ S' ⟨rfl, hc', hl, hf⟩
      have h' := h.fr hf hc'
      rw [show 2 ^ a.2.1 - 1 + 1 = 2 ^ a.2.1 by omega]
      refine x_si _ si_1000 dX11_digest_141 ?_
      refine x_iaddIN dX11_digest_144 ?_
      refine x_v1 (N := mX11_mix) dX11_digest_145 ml_X11_301 nv_X11_mix rfl rfl (k_mixq S' a hs tx u0 u1 u2 ck co _ h' _) ?_
      rintro _ S2 ⟨rfl, hd2, hl2⟩
      refine x_iincN dX11_digest_148 rfl rfl ?_
      refine x_goto 126 dX11_digest_151 rfl ?_
      refine ih (k + 1) S2 (by omega) ?_ (hl2 hl)
      rw [map_snoc, dgF_snoc]
      exact hd2
set_option maxRecDepth 100000 in
set_option maxHeartbeats 4000000 in
theorem k_dg_b (a : Ar) (hs : List Ar) (tx : List Nat) (u0 u1 u2 ck co : Int32) (H : Int64) (z2 : Value) (Q : Option Value → amS → Prop) (hq : ∀ S, DG S a hs tx u0 u1 u2 ck co (dgF H ((List.range 5).map (fun k => nI (baL (rkV a.2.2) (ringsB a.2.2 a.2.1 5) a.2.1 k).length))) → laidM S a.2.1 a.2.2 → X shM mX11_digest 193 [.ref 0, .int (nI 5), z2] [] S Q) : ∀ (e k : Nat) (S : amS), k + e = 5 → DG S a hs tx u0 u1 u2 ck co (dgF H ((List.range k).map (fun k => nI (baL (rkV a.2.2) (ringsB a.2.2 a.2.1 5) a.2.1 k).length))) → laidM S a.2.1 a.2.2 → X shM mX11_digest 172 [.ref 0, .int (nI k), z2] [] S Q := by
  intro e
  induction e with
  | zero =>
    intro k S h1 h hl0
    obtain rfl : k = 5 := by omega
    refine x_iload_n dX11_digest_172 rfl ?_
    refine x_ic _ ic_5 dX11_digest_173 ?_
    refine x_icmp_geN 193 dX11_digest_174 rfl (by omega) (by omega) (fun c174 => ?_) (fun c174 => ?_)
    · exact hq S h hl0
    · exact absurd c174 (by omega)
  | succ e ih =>
    intro k S h1 h hl0
    have hA := h.1.1.1
    obtain ⟨a1, a2, a3, a4, a5, a6, a7⟩ := id hA
    have hm := h.1.1.2
    have h512 := pow9 a3
    have hpos := Nat.two_pow_pos a.2.1
    refine x_iload_n dX11_digest_172 rfl ?_
    refine x_ic _ ic_5 dX11_digest_173 ?_
    refine x_icmp_geN 193 dX11_digest_174 rfl (by omega) (by omega) (fun c174 => ?_) (fun c174 => ?_)
    · exact absurd c174 (by omega)
    · refine x_aload_n dX11_digest_177 rfl ?_
      refine x_aload_n dX11_digest_178 rfl ?_
      refine x_iload_n dX11_digest_179 rfl ?_
      refine x_ic _ ic_m1 dX11_digest_180 ?_
      refine x_v2 (N := mX11_baseOf) dX11_digest_181 ml_X11_237 nv_X11_baseOf rfl rfl (kF_base S a hs tx u0 u1 u2 ck co h.1 k (by omega) (i32 (-1)) (by rw [i32_lt (by omega) (by omega)]; omega)) ?_
      rintro _ S' ⟨rfl, hc', hl, hf⟩
      have h' := h.fr hf hc'
      refine x_v1 (N := mX11_mix) dX11_digest_184 ml_X11_301 nv_X11_mix rfl rfl (k_mixq S' a hs tx u0 u1 u2 ck co _ h' _) ?_
      rintro _ S2 ⟨rfl, hd2, hl2⟩
      refine x_iincN dX11_digest_187 rfl rfl ?_
      refine x_goto 172 dX11_digest_190 rfl ?_
      refine ih (k + 1) S2 (by omega) ?_ (hl2 hl)
      rw [map_snoc, dgF_snoc]
      rw [lAns_cnt] at hd2
      exact hd2
theorem k_dg_f0 (a : Ar) (hs : List Ar) (tx : List Nat) (u0 u1 u2 ck co : Int32) (H : Int64) (z2 : Value) (Q : Option Value → amS → Prop) (S : amS) (h : DG S a hs tx u0 u1 u2 ck co H) (hl0 : laidM S a.2.1 a.2.2) (hq : ∀ S, DG S a hs tx u0 u1 u2 ck co (dgF H ((List.range 5).map (fun k => nI (flL (rkV a.2.2) a.2.1 k).length))) → laidM S a.2.1 a.2.2 → X shM mX11_digest 124 [.ref 0, .int (nI 5), z2] [] S Q) : X shM mX11_digest 103 [.ref 0, .int (nI 0), z2] [] S Q := k_dg_f a hs tx u0 u1 u2 ck co H z2 Q hq 5 0 S rfl h hl0
theorem k_dg_p0 (a : Ar) (hs : List Ar) (tx : List Nat) (u0 u1 u2 ck co : Int32) (H : Int64) (z2 : Value) (Q : Option Value → amS → Prop) (S : amS) (h : DG S a hs tx u0 u1 u2 ck co H) (hl0 : laidM S a.2.1 a.2.2) (hq : ∀ S, DG S a hs tx u0 u1 u2 ck co (dgF H ((List.range 5).map (fun j => i32 (polB (rkV a.2.2) a.1 (2 ^ a.2.1 - 1) j (2 ^ a.2.1) + (1000 : Nat))))) → laidM S a.2.1 a.2.2 → X shM mX11_digest 154 [.ref 0, .int (nI 5), z2] [] S Q) : X shM mX11_digest 126 [.ref 0, .int (nI 0), z2] [] S Q := k_dg_p a hs tx u0 u1 u2 ck co H z2 Q hq 5 0 S rfl h hl0
theorem k_dg_b0 (a : Ar) (hs : List Ar) (tx : List Nat) (u0 u1 u2 ck co : Int32) (H : Int64) (z2 : Value) (Q : Option Value → amS → Prop) (S : amS) (h : DG S a hs tx u0 u1 u2 ck co H) (hl0 : laidM S a.2.1 a.2.2) (hq : ∀ S, DG S a hs tx u0 u1 u2 ck co (dgF H ((List.range 5).map (fun k => nI (baL (rkV a.2.2) (ringsB a.2.2 a.2.1 5) a.2.1 k).length))) → laidM S a.2.1 a.2.2 → X shM mX11_digest 193 [.ref 0, .int (nI 5), z2] [] S Q) : X shM mX11_digest 172 [.ref 0, .int (nI 0), z2] [] S Q := k_dg_b a hs tx u0 u1 u2 ck co H z2 Q hq 5 0 S rfl h hl0
set_option maxRecDepth 100000 in
set_option maxHeartbeats 4000000 in
theorem k_dg_r (a : Ar) (hs : List Ar) (tx : List Nat) (u0 u1 u2 ck co : Int32) (H : Int64) (i : Nat) (hi : i < a.2.1) (Q : Option Value → amS → Prop) (hq : ∀ S, DG S a hs tx u0 u1 u2 ck co (dgF H (dgR a i)) → laidM S a.2.1 a.2.2 → X shM mX11_digest 95 [.ref 0, .int (nI i), .int (nI a.1)] [] S Q) : ∀ (e j : Nat) (S : amS), j + e = a.1 → DG S a hs tx u0 u1 u2 ck co (dgF H ((List.range j).map (fun j => i32 (a.2.2 i j + (10 : Nat))))) → laidM S a.2.1 a.2.2 → X shM mX11_digest 61 [.ref 0, .int (nI i), .int (nI j)] [] S Q := by
  intro e
  induction e with
  | zero =>
    intro j S h1 h hl0
    obtain rfl : j = a.1 := by omega
    have hA := h.1.1.1
    obtain ⟨a1, a2, a3, a4, a5, a6, a7⟩ := id hA
    have hm := h.1.1.2
    have h512 := pow9 a3
    have hpos := Nat.two_pow_pos a.2.1
    refine x_iload_n dX11_digest_61 rfl ?_
    refine x_aload_n dX11_digest_62 rfl ?_
    refine x_getR dX11_digest_63 fl_X11_7 rfl ?_
    refine x_bi _ bi_36 dX11_digest_66 ?_
    refine x_ialdN dX11_digest_68 rfl rfl (by omega) (hm.1) ?_
    refine x_icmp_geN 95 dX11_digest_69 rfl (by omega) (by omega) (fun c69 => ?_) (fun c69 => ?_)
    · exact hq S h hl0
    · exact absurd c69 (by omega)
  | succ e ih =>
    intro j S h1 h hl0
    have hA := h.1.1.1
    obtain ⟨a1, a2, a3, a4, a5, a6, a7⟩ := id hA
    have hm := h.1.1.2
    have h512 := pow9 a3
    have hpos := Nat.two_pow_pos a.2.1
    refine x_iload_n dX11_digest_61 rfl ?_
    refine x_aload_n dX11_digest_62 rfl ?_
    refine x_getR dX11_digest_63 fl_X11_7 rfl ?_
    refine x_bi _ bi_36 dX11_digest_66 ?_
    refine x_ialdN dX11_digest_68 rfl rfl (by omega) (hm.1) ?_
    refine x_icmp_geN 95 dX11_digest_69 rfl (by omega) (by omega) (fun c69 => ?_) (fun c69 => ?_)
    · exact absurd c69 (by omega)
    · refine x_aload_n dX11_digest_72 rfl ?_
      refine x_aload_n dX11_digest_73 rfl ?_
      refine x_getR dX11_digest_74 fl_X11_7 rfl ?_
      refine x_ic _ ic_4 dX11_digest_77 ?_
      refine x_iload_n dX11_digest_78 rfl ?_
      refine x_imulN dX11_digest_79 ?_
      refine x_iload_n dX11_digest_80 rfl ?_
      refine x_iaddN dX11_digest_81 ?_
      refine x_ialdN dX11_digest_82 rfl rfl (by omega) (hm.2.2 i j hi (by omega)) ?_
      refine x_bi _ bi_10 dX11_digest_83 ?_
      refine x_iaddIN dX11_digest_85 ?_
      refine x_v1 (N := mX11_mix) dX11_digest_86 ml_X11_301 nv_X11_mix rfl rfl (k_mixq S a hs tx u0 u1 u2 ck co _ h _) ?_
      rintro _ S2 ⟨rfl, hd2, hl2⟩
      refine x_iincN dX11_digest_89 rfl rfl ?_
      refine x_goto 61 dX11_digest_92 rfl ?_
      refine ih (j + 1) S2 (by omega) ?_ (hl2 hl0)
      rw [map_snoc, dgF_snoc]
      exact hd2
set_option maxRecDepth 100000 in
set_option maxHeartbeats 4000000 in
theorem k_dg_c (a : Ar) (hs : List Ar) (tx : List Nat) (u0 u1 u2 ck co : Int32) (H : Int64) (Q : Option Value → amS → Prop) (hq : ∀ S z2, DG S a hs tx u0 u1 u2 ck co (dgF H (dgC a)) → laidM S a.2.1 a.2.2 → X shM mX11_digest 101 [.ref 0, .int (nI a.2.1), z2] [] S Q) : ∀ (e i : Nat) (S : amS) (z2 : Value), i + e = a.2.1 → DG S a hs tx u0 u1 u2 ck co (dgF H ((List.range i).flatMap (dgR a))) → laidM S a.2.1 a.2.2 → X shM mX11_digest 48 [.ref 0, .int (nI i), z2] [] S Q := by
  intro e
  induction e with
  | zero =>
    intro i S z2 h1 h hl0
    obtain rfl : i = a.2.1 := by omega
    have hA := h.1.1.1
    obtain ⟨a1, a2, a3, a4, a5, a6, a7⟩ := id hA
    have hm := h.1.1.2
    have h512 := pow9 a3
    have hpos := Nat.two_pow_pos a.2.1
    refine x_iload_n dX11_digest_48 rfl ?_
    refine x_aload_n dX11_digest_49 rfl ?_
    refine x_getR dX11_digest_50 fl_X11_7 rfl ?_
    refine x_bi _ bi_37 dX11_digest_53 ?_
    refine x_ialdN dX11_digest_55 rfl rfl (by omega) (hm.2.1) ?_
    refine x_icmp_geN 101 dX11_digest_56 rfl (by omega) (by omega) (fun c56 => ?_) (fun c56 => ?_)
    · exact hq S _ h hl0
    · exact absurd c56 (by omega)
  | succ e ih =>
    intro i S z2 h1 h hl0
    have hA := h.1.1.1
    obtain ⟨a1, a2, a3, a4, a5, a6, a7⟩ := id hA
    have hm := h.1.1.2
    have h512 := pow9 a3
    have hpos := Nat.two_pow_pos a.2.1
    refine x_iload_n dX11_digest_48 rfl ?_
    refine x_aload_n dX11_digest_49 rfl ?_
    refine x_getR dX11_digest_50 fl_X11_7 rfl ?_
    refine x_bi _ bi_37 dX11_digest_53 ?_
    refine x_ialdN dX11_digest_55 rfl rfl (by omega) (hm.2.1) ?_
    refine x_icmp_geN 101 dX11_digest_56 rfl (by omega) (by omega) (fun c56 => ?_) (fun c56 => ?_)
    · exact absurd c56 (by omega)
    · refine x_ic _ ic_0 dX11_digest_59 ?_
      refine x_istore_n dX11_digest_60 rfl ?_
      refine k_dg_r a hs tx u0 u1 u2 ck co (dgF H ((List.range i).flatMap (dgR a))) i (by omega) Q (fun S2 h2 hl2 => ?_) a.1 0 S (by omega) h hl0
      refine x_iincN dX11_digest_95 rfl rfl ?_
      refine x_goto 48 dX11_digest_98 rfl ?_
      refine ih (i + 1) S2 _ (by omega) ?_ hl2
      rw [List.range_succ, List.flatMap_append, dgF_app, List.flatMap_singleton]
      exact h2
theorem k_dg_c0 (a : Ar) (hs : List Ar) (tx : List Nat) (u0 u1 u2 ck co : Int32) (H : Int64) (z2 : Value) (Q : Option Value → amS → Prop) (S : amS) (h : DG S a hs tx u0 u1 u2 ck co H) (hl0 : laidM S a.2.1 a.2.2) (hq : ∀ S z2, DG S a hs tx u0 u1 u2 ck co (dgF H (dgC a)) → laidM S a.2.1 a.2.2 → X shM mX11_digest 101 [.ref 0, .int (nI a.2.1), z2] [] S Q) : X shM mX11_digest 48 [.ref 0, .int (nI 0), z2] [] S Q := k_dg_c a hs tx u0 u1 u2 ck co H Q hq a.2.1 0 S z2 (Nat.zero_add _) h hl0
set_option maxRecDepth 100000 in
set_option maxHeartbeats 4000000 in
theorem k_dg_z (a : Ar) (hs : List Ar) (tx : List Nat) (u0 u1 u2 ck co : Int32) (H : Int64) (S : amS) (z1 z2 : Value) (h : DG S a hs tx u0 u1 u2 ck co H) (hl0 : laidM S a.2.1 a.2.2) : X shM mX11_digest 46 [.ref 0, z1, z2] [] S (fun r S' => r = some (.long (dgF H (dgC a ++ dgL a))) ∧ mCore S' a hs tx u0 u1 u2 ck co) := by
  refine x_ic _ ic_0 dX11_digest_46 ?_
  refine x_istore_n dX11_digest_47 rfl ?_
  refine k_dg_c0 a hs tx u0 u1 u2 ck co H _ _ S h hl0 (fun S21 z2 g21 L21 => ?_)
  refine x_ic _ ic_0 dX11_digest_101 ?_
  refine x_istore_n dX11_digest_102 rfl ?_
  refine k_dg_f0 a hs tx u0 u1 u2 ck co _ _ _ S21 g21 L21 (fun S22 g22 L22 => ?_)
  refine x_ic _ ic_0 dX11_digest_124 ?_
  refine x_istore_n dX11_digest_125 rfl ?_
  refine k_dg_p0 a hs tx u0 u1 u2 ck co _ _ _ S22 g22 L22 (fun S23 g23 L23 => ?_)
  refine x_aload_n dX11_digest_154 rfl ?_
  refine x_aload_n dX11_digest_155 rfl ?_
  refine x_getIV dX11_digest_156 fl_X11_120 rfl (L23.2.1) ?_
  refine x_v1 (N := mX11_mix) dX11_digest_159 ml_X11_301 nv_X11_mix rfl rfl (k_mixq S23 a hs tx u0 u1 u2 ck co _ g23 _) ?_
  rintro _ S24 ⟨rfl, g24, l24⟩
  have L24 := l24 L23
  refine x_aload_n dX11_digest_162 rfl ?_
  refine x_aload_n dX11_digest_163 rfl ?_
  refine x_v0 (N := mX11_partMany) dX11_digest_164 ml_X11_177 nv_X11_partMany rfl rfl (kF_partMany S24 a hs tx u0 u1 u2 ck co g24.1 L24) ?_
  rintro _ S25 ⟨rfl, hc25, L25, hf25⟩
  have g25 := g24.fr hf25 hc25
  refine x_v1 (N := mX11_mix) dX11_digest_167 ml_X11_301 nv_X11_mix rfl rfl (k_mixq S25 a hs tx u0 u1 u2 ck co _ g25 _) ?_
  rintro _ S26 ⟨rfl, g26, l26⟩
  have L26 := l26 L25
  refine x_ic _ ic_0 dX11_digest_170 ?_
  refine x_istore_n dX11_digest_171 rfl ?_
  refine k_dg_b0 a hs tx u0 u1 u2 ck co _ _ _ S26 g26 L26 (fun S27 g27 L27 => ?_)
  refine x_aload_n dX11_digest_193 rfl ?_
  refine x_getL dX11_digest_194 fl_X11_295 rfl ?_
  refine x_lret dX11_digest_197 rfl ?_
  refine ⟨?_, g27.1⟩
  rw [dgF_app, dgL, dgF_app, dgF_app, dgF_app]
  exact congrArg (fun z => some (Value.long z)) g27.2
set_option maxRecDepth 100000 in
set_option maxHeartbeats 4000000 in
theorem k_digest (S : amS) (a : Ar) (hs : List Ar) (tx : List Nat) (u0 u1 u2 ck co : Int32) (hc : mCore S a hs tx u0 u1 u2 ck co) : X shM mX11_digest 0 [.ref 0, .null, .null] [] S (fun r S' => r = some (.long (dgA a hs tx u0 u1 u2 ck co)) ∧ mCore S' a hs tx u0 u1 u2 ck co) := by
  have hA := hc.1.1
  have hm := hc.1.2
  obtain ⟨a1, a2, a3, a4, a5, a6, a7⟩ := id hA
  have h512 := pow9 a3
  have hr9 : ∀ t, t < 2 ^ a.2.1 → rkV a.2.2 t ≤ 9 := fun t ht => Nat.le_trans (rkV_le (by omega)) (pc9_le t (by omega))
  have hpos := Nat.two_pow_pos a.2.1
  refine x_aload_n dX11_digest_0 rfl ?_
  refine x_ldc2 cn_X11_299 dX11_digest_1 ?_
  refine x_putl dX11_digest_4 fp_X11_295 rfl ?_
  refine x_ic _ ic_0 dX11_digest_7 ?_
  refine x_istore_n dX11_digest_8 rfl ?_
  skip
  have g10 : DG (sG S 0 (vp_updL (S.2.2.1 0) 32 2351)) a hs tx u0 u1 u2 ck co 2351 := ⟨hc.keep (fun i hi => rfl) (fun k hk => rfl), by show vp_updL (S.2.2.1 0) 32 2351 32 = _; simp [vp_updL]⟩
  generalize sG S 0 (vp_updL (S.2.2.1 0) 32 2351) = S10 at g10 ⊢
  refine x_iload_n dX11_digest_9 rfl ?_
  refine x_bi _ bi_8 dX11_digest_10 ?_
  refine x_icmp_geN 30 dX11_digest_12 rfl (by omega) (by omega) (fun c12 => ?_) (fun c12 => ?_)
  · omega
  · refine x_aload_n dX11_digest_15 rfl ?_
    refine x_aload_n dX11_digest_16 rfl ?_
    refine x_iload_n dX11_digest_17 rfl ?_
    refine x_v1d (N := mX11_toldOf) dX11_digest_18 ml_X11_290 nv_X11_toldOf rfl rfl (kF_told_0 S10 a hs tx u0 u1 u2 ck co g10.1) ?_
    refine x_v1 (N := mX11_mix) dX11_digest_21 ml_X11_301 nv_X11_mix rfl rfl (k_mixq S10 a hs tx u0 u1 u2 ck co _ g10 _) ?_
    rintro _ S11 ⟨rfl, g11, l11⟩
    refine x_iincN dX11_digest_24 rfl rfl ?_
    refine x_goto 9 dX11_digest_27 rfl ?_
    skip
    refine x_iload_n dX11_digest_9 rfl ?_
    refine x_bi _ bi_8 dX11_digest_10 ?_
    refine x_icmp_geN 30 dX11_digest_12 rfl (by omega) (by omega) (fun c12 => ?_) (fun c12 => ?_)
    · omega
    · refine x_aload_n dX11_digest_15 rfl ?_
      refine x_aload_n dX11_digest_16 rfl ?_
      refine x_iload_n dX11_digest_17 rfl ?_
      refine x_v1d (N := mX11_toldOf) dX11_digest_18 ml_X11_290 nv_X11_toldOf rfl rfl (kF_told_1 S11 a hs tx u0 u1 u2 ck co g11.1) ?_
      refine x_v1 (N := mX11_mix) dX11_digest_21 ml_X11_301 nv_X11_mix rfl rfl (k_mixq S11 a hs tx u0 u1 u2 ck co _ g11 _) ?_
      rintro _ S12 ⟨rfl, g12, l12⟩
      refine x_iincN dX11_digest_24 rfl rfl ?_
      refine x_goto 9 dX11_digest_27 rfl ?_
      skip
      refine x_iload_n dX11_digest_9 rfl ?_
      refine x_bi _ bi_8 dX11_digest_10 ?_
      refine x_icmp_geN 30 dX11_digest_12 rfl (by omega) (by omega) (fun c12 => ?_) (fun c12 => ?_)
      · omega
      · refine x_aload_n dX11_digest_15 rfl ?_
        refine x_aload_n dX11_digest_16 rfl ?_
        refine x_iload_n dX11_digest_17 rfl ?_
        refine x_v1d (N := mX11_toldOf) dX11_digest_18 ml_X11_290 nv_X11_toldOf rfl rfl (kF_told_2 S12 a hs tx u0 u1 u2 ck co g12.1) ?_
        refine x_v1 (N := mX11_mix) dX11_digest_21 ml_X11_301 nv_X11_mix rfl rfl (k_mixq S12 a hs tx u0 u1 u2 ck co _ g12 _) ?_
        rintro _ S13 ⟨rfl, g13, l13⟩
        refine x_iincN dX11_digest_24 rfl rfl ?_
        refine x_goto 9 dX11_digest_27 rfl ?_
        skip
        refine x_iload_n dX11_digest_9 rfl ?_
        refine x_bi _ bi_8 dX11_digest_10 ?_
        refine x_icmp_geN 30 dX11_digest_12 rfl (by omega) (by omega) (fun c12 => ?_) (fun c12 => ?_)
        · omega
        · refine x_aload_n dX11_digest_15 rfl ?_
          refine x_aload_n dX11_digest_16 rfl ?_
          refine x_iload_n dX11_digest_17 rfl ?_
          refine x_v1d (N := mX11_toldOf) dX11_digest_18 ml_X11_290 nv_X11_toldOf rfl rfl (kF_told_3 S13 a hs tx u0 u1 u2 ck co g13.1) ?_
          refine x_v1 (N := mX11_mix) dX11_digest_21 ml_X11_301 nv_X11_mix rfl rfl (k_mixq S13 a hs tx u0 u1 u2 ck co _ g13 _) ?_
          rintro _ S14 ⟨rfl, g14, l14⟩
          refine x_iincN dX11_digest_24 rfl rfl ?_
          refine x_goto 9 dX11_digest_27 rfl ?_
          skip
          refine x_iload_n dX11_digest_9 rfl ?_
          refine x_bi _ bi_8 dX11_digest_10 ?_
          refine x_icmp_geN 30 dX11_digest_12 rfl (by omega) (by omega) (fun c12 => ?_) (fun c12 => ?_)
          · omega
          · refine x_aload_n dX11_digest_15 rfl ?_
            refine x_aload_n dX11_digest_16 rfl ?_
            refine x_iload_n dX11_digest_17 rfl ?_
            refine x_v1d (N := mX11_toldOf) dX11_digest_18 ml_X11_290 nv_X11_toldOf rfl rfl (kF_told_4 S14 a hs tx u0 u1 u2 ck co g14.1) ?_
            refine x_v1 (N := mX11_mix) dX11_digest_21 ml_X11_301 nv_X11_mix rfl rfl (k_mixq S14 a hs tx u0 u1 u2 ck co _ g14 _) ?_
            rintro _ S15 ⟨rfl, g15, l15⟩
            refine x_iincN dX11_digest_24 rfl rfl ?_
            refine x_goto 9 dX11_digest_27 rfl ?_
            skip
            refine x_iload_n dX11_digest_9 rfl ?_
            refine x_bi _ bi_8 dX11_digest_10 ?_
            refine x_icmp_geN 30 dX11_digest_12 rfl (by omega) (by omega) (fun c12 => ?_) (fun c12 => ?_)
            · omega
            · refine x_aload_n dX11_digest_15 rfl ?_
              refine x_aload_n dX11_digest_16 rfl ?_
              refine x_iload_n dX11_digest_17 rfl ?_
              refine x_v1d (N := mX11_toldOf) dX11_digest_18 ml_X11_290 nv_X11_toldOf rfl rfl (kF_told_5 S15 a hs tx u0 u1 u2 ck co g15.1) ?_
              refine x_v1 (N := mX11_mix) dX11_digest_21 ml_X11_301 nv_X11_mix rfl rfl (k_mixq S15 a hs tx u0 u1 u2 ck co _ g15 _) ?_
              rintro _ S16 ⟨rfl, g16, l16⟩
              refine x_iincN dX11_digest_24 rfl rfl ?_
              refine x_goto 9 dX11_digest_27 rfl ?_
              skip
              refine x_iload_n dX11_digest_9 rfl ?_
              refine x_bi _ bi_8 dX11_digest_10 ?_
              refine x_icmp_geN 30 dX11_digest_12 rfl (by omega) (by omega) (fun c12 => ?_) (fun c12 => ?_)
              · omega
              · refine x_aload_n dX11_digest_15 rfl ?_
                refine x_aload_n dX11_digest_16 rfl ?_
                refine x_iload_n dX11_digest_17 rfl ?_
                refine x_v1 (N := mX11_toldOf) dX11_digest_18 ml_X11_290 nv_X11_toldOf rfl rfl (kF_told_6 S16 a hs tx u0 u1 u2 ck co g16.1) ?_
                rintro _ T6 ⟨rfl, hcT, hlT, hfT⟩
                have gT := g16.fr hfT hcT
                refine x_v1 (N := mX11_mix) dX11_digest_21 ml_X11_301 nv_X11_mix rfl rfl (k_mixq T6 a hs tx u0 u1 u2 ck co _ gT _) ?_
                rintro _ S17 ⟨rfl, g17, l17⟩
                have L17 := l17 hlT
                refine x_iincN dX11_digest_24 rfl rfl ?_
                refine x_goto 9 dX11_digest_27 rfl ?_
                skip
                refine x_iload_n dX11_digest_9 rfl ?_
                refine x_bi _ bi_8 dX11_digest_10 ?_
                refine x_icmp_geN 30 dX11_digest_12 rfl (by omega) (by omega) (fun c12 => ?_) (fun c12 => ?_)
                · omega
                · refine x_aload_n dX11_digest_15 rfl ?_
                  refine x_aload_n dX11_digest_16 rfl ?_
                  refine x_iload_n dX11_digest_17 rfl ?_
                  refine x_v1d (N := mX11_toldOf) dX11_digest_18 ml_X11_290 nv_X11_toldOf rfl rfl (kF_told_7 S17 a hs tx u0 u1 u2 ck co g17.1) ?_
                  refine x_v1 (N := mX11_mix) dX11_digest_21 ml_X11_301 nv_X11_mix rfl rfl (k_mixq S17 a hs tx u0 u1 u2 ck co _ g17 _) ?_
                  rintro _ S18 ⟨rfl, g18, l18⟩
                  have L18 := l18 L17
                  refine x_iincN dX11_digest_24 rfl rfl ?_
                  refine x_goto 9 dX11_digest_27 rfl ?_
                  skip
                  -- told
                  refine x_iload_n dX11_digest_9 rfl ?_
                  refine x_bi _ bi_8 dX11_digest_10 ?_
                  refine x_icmp_geN 30 dX11_digest_12 rfl (by omega) (by omega) (fun c12 => ?_) (fun c12 => ?_)
                  · refine x_aload_n dX11_digest_30 rfl ?_
                    refine x_aload_n dX11_digest_31 rfl ?_
                    refine x_getIV dX11_digest_32 fl_X11_284 rfl (g18.1.2.2.2.2.1.1) ?_
                    refine x_v1 (N := mX11_mix) dX11_digest_35 ml_X11_301 nv_X11_mix rfl rfl (k_mixq S18 a hs tx u0 u1 u2 ck co _ g18 _) ?_
                    rintro _ S19 ⟨rfl, g19, l19⟩
                    have L19 := l19 L18
                    refine x_aload_n dX11_digest_38 rfl ?_
                    refine x_aload_n dX11_digest_39 rfl ?_
                    refine x_getIV dX11_digest_40 fl_X11_25 rfl (g19.1.2.2.2.2.1.2) ?_
                    refine x_v1 (N := mX11_mix) dX11_digest_43 ml_X11_301 nv_X11_mix rfl rfl (k_mixq S19 a hs tx u0 u1 u2 ck co _ g19 _) ?_
                    rintro _ S20 ⟨rfl, g20, l20⟩
                    have L20 := l20 L19
                    refine x_mono ?_ (k_dg_z a hs tx u0 u1 u2 ck co _ S20 _ _ g20 L20)
                    rintro _ S5 ⟨rfl, hc5⟩
                    refine ⟨?_, hc5⟩
                    rw [dgA, dgF_app 2351]
                    rfl
                  · exact absurd c12 (by omega)
