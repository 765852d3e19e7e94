/-! THE REFERENCE: reads -/
def RQ (tx : List Nat) (d p n : Nat) (S : amS) (r : Option Value) (S' : amS) : Prop := (∃ o q, rdOrd tx d p = .inr (o, q) ∧ r = some (.int (nI (nxD d o))) ∧ PF S S' ∧ S'.1 0 27 = nI q ∧ S'.1 0 28 = i32 (-1) ∧ S'.1 0 29 = nI (n + 1) ∧ OdAt S' n o ∧ Keep n S S') ∨ (∃ e v, rdOrd tx d p = .inl e ∧ r = some (.int v) ∧ PF S S' ∧ S'.1 0 28 = nI e)
theorem k_rdo (S : amS) (tx : List Nat) (d n p : Nat) (hd : 2 ≤ d ∧ d ≤ 4) (hn : n < 50) (hp : p ≤ tx.length) (hT : TxS S tx) (h27 : S.1 0 27 = nI p) (h28 : S.1 0 28 = i32 (-1)) (h29 : S.1 0 29 = nI n) (hlt : sk tx p < tx.length) : X shM mX11_readOrder 0 [.ref 0, .int (nI d), .null, .null, .null] [] S (RQ tx d p n S) :=
  k_readOrder S tx d n p hd hn hp hT h27 h28 h29 hlt _ (fun o q S' e i1 i2 i3 i4 i5 i6 => Or.inl ⟨o, q, e, rfl, i1, i2, i3, i4, i5, i6⟩) (fun e v S' e1 i1 i2 => Or.inr ⟨e, v, e1, rfl, i1, i2⟩)
theorem rdOrd_sk (tx : List Nat) (d p : Nat) : rdOrd tx d (sk tx p) = rdOrd tx d p := by
  unfold rdOrd
  rw [sk_sk]
theorem nxD_ok {d : Nat} {o : Od} (hd : 2 ≤ d ∧ d ≤ 4) (ho : OdOK o) : 2 ≤ nxD d o ∧ nxD d o ≤ 4 := by
  unfold nxD
  split
  · rename_i h
    have := ho.2.2.2 h
    omega
  · exact hd
def Ods (S : amS) (l : List Od) : Prop := ∀ (k : Nat) (o : Od), l[k]? = some o → OdAt S k o ∧ OdOK o
theorem Ods.at {S S1 : amS} {l : List Od} {p : Nat} (h : Ods S l) (hA : At S S1 p) : Ods S1 l := fun k o e => ⟨(h k o e).1.eq hA.2.1, (h k o e).2⟩
theorem Ods.add {S S1 : amS} {l : List Od} {o : Od} (h : Ods S l) (hk : Keep l.length S S1) (ho : OdAt S1 l.length o) (hok : OdOK o) : Ods S1 (l ++ [o]) := by
  intro k o' e
  by_cases q : k < l.length
  · rw [List.getElem?_append_left q] at e
    obtain ⟨⟨h1, h2⟩, h3⟩ := h k o' e
    exact ⟨⟨(hk k q).1.trans h1, fun t ht => ((hk k q).2 t ht).trans (h2 t ht)⟩, h3⟩
  · rw [List.getElem?_append_right (by omega)] at e
    have q2 : k = l.length := by
      have := (List.getElem?_eq_some_iff.mp e).1
      simp only [List.length_cons, List.length_nil] at this
      omega
    subst q2
    rw [Nat.sub_self] at e
    cases e
    exact ⟨ho, hok⟩
set_option maxRecDepth 100000 in
set_option maxHeartbeats 4000000 in
theorem k_rd_1 (S0 : amS) (tx : List Nat) (hT : TxS S0 tx) (Q : Option Value → amS → Prop) (R : Nat ⊕ List Od) (hbad : ∀ e S v, R = .inl e → e ≤ 100 → PF S0 S → S.1 0 28 = nI e → X shM mX11_reads 65 [.ref 0, .int v, .null, .null, .null] [] S Q) (hok : ∀ l S v, R = .inr l → PF S0 S → S.1 0 28 = i32 (-1) → S.1 0 29 = nI l.length → Ods S l → l.length ≤ 40 → X shM mX11_reads 65 [.ref 0, .int v, .null, .null, .null] [] S Q) : ∀ (f d p : Nat) (acc : List Od) (S : amS), tx.length < p + 3 * f → p ≤ tx.length → 3 * acc.length ≤ p → (2 ≤ d ∧ d ≤ 4) → PF S0 S → S.1 0 27 = nI p → S.1 0 28 = i32 (-1) → S.1 0 29 = nI acc.length → Ods S acc → sk tx p < tx.length → rdAll tx f d p acc = R → X shM mX11_reads 40 [.ref 0, .int (nI d), .null, .null, .null] [] S Q := by
  have hl := hT.2.1
  intro f
  induction f with
  | zero =>
    intro d p acc S h1 h2 h3 hd hF h27 h28 h29 hO hlt hR
    have := sk_ge tx p
    omega
  | succ f ih =>
    intro d p acc S h1 h2 h3 hd hF h27 h28 h29 hO hlt hR
    have hTS := hT.pf hF
    refine x_aload_n dX11_reads_40 rfl ?_
    refine x_getIV dX11_reads_41 fl_X11_252 rfl (h28) ?_
    refine x_ic _ ic_m1 dX11_reads_44 ?_
    refine x_icmp_neI 65 dX11_reads_45 rfl (by omega) (by omega) (fun c45 => ?_) (fun c45 => ?_)
    · exact absurd rfl c45
    · refine x_aload_n dX11_reads_48 rfl ?_
      refine x_v0 (N := mX11_here) dX11_reads_49 ml_X11_259 nv_X11_here rfl rfl (k_here0 S tx p h2 hTS h27) ?_
      rintro _ S1 ⟨rfl, hA⟩
      rw [hv_in hlt]
      have hc127 := (hT.c hlt).1
      have hT1 := hTS.at hA
      refine x_ic _ ic_m1 dX11_reads_52 ?_
      refine x_topI2 ?_
      refine x_icmp_eqI 65 dX11_reads_53 rfl (by omega) (by omega) (fun c53 => ?_) (fun c53 => ?_)
      · omega
      · refine x_aload_n dX11_reads_56 rfl ?_
        refine x_iload_n dX11_reads_57 rfl ?_
        refine x_v1 (N := mX11_readOrder) dX11_reads_58 ml_X11_278 nv_X11_readOrder rfl rfl (k_rdo S1 tx d acc.length (sk tx p) hd (by omega) (sk_le h2) hT1 hA.2.2 ((hA.1 28 (by omega)).trans h28) ((hA.1 29 (by omega)).trans h29) (by rw [sk_sk]; exact hlt)) ?_
        rintro _ S2 (⟨o, q, e1, rfl, i1, i2, i3, i4, i5, i6⟩ | ⟨e, v, e1, rfl, i1, i2⟩)
        · rw [rdOrd_sk] at e1
          obtain ⟨od1, od2, od3⟩ := rdOrd_ok hd h2 e1
          have hF2 : PF S0 S2 := (hF.at hA).tr i1
          have hT2 := hT.pf hF2
          have hlen : (acc ++ [o]).length = acc.length + 1 := by rw [List.length_append]; rfl
          have hO2 : Ods S2 (acc ++ [o]) := (hO.at hA).add i6 i5 od3
          refine x_istore_n dX11_reads_61 rfl ?_
          refine x_goto 40 dX11_reads_62 rfl ?_
          by_cases hs : sk tx q < tx.length
          · exact ih (nxD d o) q (acc ++ [o]) S2 (by omega) (by omega) (by rw [hlen]; omega) (nxD_ok hd od3) hF2 i2 i3 (by rw [hlen]; exact i4) hO2 hs (by rw [← hR, rdAll, e1]; simp only [if_pos hs])
          · refine x_aload_n dX11_reads_40 rfl ?_
            refine x_getIV dX11_reads_41 fl_X11_252 rfl (i3) ?_
            refine x_ic _ ic_m1 dX11_reads_44 ?_
            refine x_icmp_neI 65 dX11_reads_45 rfl (by omega) (by omega) (fun c45 => ?_) (fun c45 => ?_)
            · exact absurd rfl c45
            · refine x_aload_n dX11_reads_48 rfl ?_
              refine x_v0 (N := mX11_here) dX11_reads_49 ml_X11_259 nv_X11_here rfl rfl (k_here0 S2 tx q od2 hT2 i2) ?_
              rintro _ S3 ⟨rfl, hA3⟩
              rw [hv_end hs]
              refine x_ic _ ic_m1 dX11_reads_52 ?_
              refine x_icmp_eqI 65 dX11_reads_53 rfl (by omega) (by omega) (fun c53 => ?_) (fun c53 => ?_)
              · exact hok (acc ++ [o]) S3 _ (by rw [← hR, rdAll, e1]; simp only [if_neg hs]) (hF2.at hA3) ((hA3.1 28 (by omega)).trans i3) ((hA3.1 29 (by omega)).trans (by rw [hlen]; exact i4)) (hO2.at hA3) (by rw [hlen]; omega)
              · exact absurd rfl c53
        · rw [rdOrd_sk] at e1
          have he : e ≤ 100 := by have := rdOrd_no hd h2 e1; omega
          have hF2 : PF S0 S2 := (hF.at hA).tr i1
          refine x_istore_n dX11_reads_61 rfl ?_
          refine x_goto 40 dX11_reads_62 rfl ?_
          refine x_aload_n dX11_reads_40 rfl ?_
          refine x_getIV dX11_reads_41 fl_X11_252 rfl (i2) ?_
          refine x_ic _ ic_m1 dX11_reads_44 ?_
          refine x_topI2 ?_
          refine x_icmp_neI 65 dX11_reads_45 rfl (by omega) (by omega) (fun c45 => ?_) (fun c45 => ?_)
          · exact hbad e S2 _ (by rw [← hR, rdAll, e1]) he hF2 i2
          · omega
set_option maxRecDepth 100000 in
set_option maxHeartbeats 4000000 in
theorem k_rd_r (S : amS) (d : Int32) (k : Nat) (y : Int32) (Q : Option Value → amS → Prop) (hq : ∀ g, (∀ u, u < 38 → g u = S.2.1 2 u) → X shM mX11_reads 135 [.ref 0, .int d, .int (nI k), .int y, .int (nI 38)] [] (sA S 1 g) Q) : ∀ (j t : Nat) (g : Nat → Int32), t + j = 38 → (∀ u, u < t → g u = S.2.1 2 u) → X shM mX11_reads 108 [.ref 0, .int d, .int (nI k), .int y, .int (nI t)] [] (sA S 1 g) Q := by
  intro j
  induction j with
  | zero =>
    intro t g h1 h2
    obtain rfl : t = 38 := by omega
    refine x_iload dX11_reads_108 rfl ?_
    refine x_bi _ bi_38 dX11_reads_110 ?_
    refine x_icmp_geN 135 dX11_reads_112 rfl (by omega) (by omega) (fun c112 => ?_) (fun c112 => ?_)
    · exact hq g h2
    · exact absurd c112 (by omega)
  | succ j ih =>
    intro t g h1 h2
    refine x_iload dX11_reads_108 rfl ?_
    refine x_bi _ bi_38 dX11_reads_110 ?_
    refine x_icmp_geN 135 dX11_reads_112 rfl (by omega) (by omega) (fun c112 => ?_) (fun c112 => ?_)
    · exact absurd c112 (by omega)
    · refine x_aload_n dX11_reads_115 rfl ?_
      refine x_getR dX11_reads_116 fl_X11_7 rfl ?_
      refine x_iload dX11_reads_119 rfl ?_
      refine x_aload_n dX11_reads_121 rfl ?_
      refine x_getR dX11_reads_122 fl_X11_13 rfl ?_
      refine x_iload dX11_reads_125 rfl ?_
      refine x_ialdN dX11_reads_127 rfl rfl (by omega) (rfl) ?_
      refine x_iastN dX11_reads_128 rfl rfl (by omega) ?_
      refine x_iincN dX11_reads_129 rfl rfl ?_
      refine x_goto 108 dX11_reads_132 rfl ?_
      rw [sA_sA, sA_at]
      refine ih (t + 1) _ (by omega) (fun u hu => ?_)
      by_cases q : u = t
      · subst q; rw [upd_s]; rfl
      · rw [upd_n _ _ q]; exact h2 u (by omega)
def DQ (a : Ar) (o : Od) (S : amS) (r : Option Value) (S' : amS) : Prop := (∃ n b, exO a o = .inr b ∧ n < 1000 ∧ r = some (.int (nI n)) ∧ On S S' ∧ nRow (S'.2.1 1) b ∧ Arr b.1 b.2.1 b.2.2) ∨ (∃ e, exO a o = .inl e ∧ (2 ≤ e ∧ e ≤ 4) ∧ r = some (.int (i32 (-(e : Int)))) ∧ On S S' ∧ nRow (S'.2.1 1) a)
theorem k_dOq (S : amS) (a : Ar) (hA : Arr a.1 a.2.1 a.2.2) (hm : nRow (S.2.1 1) a) (k : Nat) (hk : k < 50) (o : Od) (ho : OdOK o) (hO : OdAt S k o) : X shM mX11_doOrder 0 [.ref 0, .int (nI k), .null, .null] [] S (DQ a o S) :=
  k_doOrder S a hA hm k hk o ho hO _ (fun n b S' e h1 h2 h3 h4 => Or.inl ⟨n, b, e, h1, rfl, h2, h3, h4⟩) (fun e S' e1 h1 h2 h3 => Or.inr ⟨e, e1, h1, rfl, h2, h3⟩)
set_option maxRecDepth 100000 in
set_option maxHeartbeats 4000000 in
theorem k_rd_2 (a : Ar) (hs : List Ar) (tx : List Nat) (u0 u1 u2 ck co : Int32) (d : Int32) (l : List Od) (hl : l.length ≤ 40) (Q : Option Value → amS → Prop) (R : (Nat × Nat) ⊕ Ar) (hbad : ∀ e k S, R = .inl (e, k) → mCore S a hs tx u0 u1 u2 (nI e) (nI k) → Q (some (.int (i32 (-1000 - (k : Int))))) S) (hok : ∀ b S, R = .inr b → mCore S b (pushH hs a) tx u0 u1 u2 ck co → Q (some (.int (nI l.length))) S) : ∀ (l2 : List Od) (k : Nat) (b : Ar) (S : amS) (z3 z4 : Value), k + l2.length = l.length → (∀ j o, l2[j]? = some o → OdAt S (k + j) o ∧ OdOK o) → mMid S a b hs tx u0 u1 u2 ck co → S.1 0 29 = nI l.length → exL b l2 k = R → X shM mX11_reads 87 [.ref 0, .int d, .int (nI k), z3, z4] [] S Q := by
  intro l2
  induction l2 with
  | nil =>
    intro k b S z3 z4 h1 h2 h3 h4 h5
    have hk : k = l.length := by simpa using h1
    refine x_iload_n dX11_reads_87 rfl ?_
    refine x_aload_n dX11_reads_88 rfl ?_
    refine x_getIV dX11_reads_89 fl_X11_268 rfl (h4) ?_
    refine x_icmp_geN 158 dX11_reads_92 rfl (by omega) (by omega) (fun c92 => ?_) (fun c92 => ?_)
    · refine x_aload_n dX11_reads_158 rfl ?_
      refine x_v0 (N := mX11_push) dX11_reads_159 ml_X11_158 nv_X11_push rfl rfl (k_pushq S a b hs tx u0 u1 u2 ck co h3) ?_
      rintro _ S' ⟨rfl, hc', -, h29⟩
      refine x_aload_n dX11_reads_162 rfl ?_
      refine x_getIV dX11_reads_163 fl_X11_268 rfl (h29.trans h4) ?_
      refine x_iretI dX11_reads_166 rfl ?_
      exact hok b S' h5.symm hc'
    · exact absurd c92 (by omega)
  | cons o l2 ih =>
    intro k b S z3 z4 h1 h2 h3 h4 h5
    have hk : k < l.length := by simp only [List.length_cons] at h1; omega
    obtain ⟨hO, hOK⟩ := h2 0 o rfl
    refine x_iload_n dX11_reads_87 rfl ?_
    refine x_aload_n dX11_reads_88 rfl ?_
    refine x_getIV dX11_reads_89 fl_X11_268 rfl (h4) ?_
    refine x_icmp_geN 158 dX11_reads_92 rfl (by omega) (by omega) (fun c92 => ?_) (fun c92 => ?_)
    · exact absurd c92 (by omega)
    · refine x_aload_n dX11_reads_95 rfl ?_
      refine x_iload_n dX11_reads_96 rfl ?_
      refine x_v1 (N := mX11_doOrder) dX11_reads_97 ml_X11_281 nv_X11_doOrder rfl rfl (k_dOq S b h3.1.1 h3.1.2 k (by omega) o hOK hO) ?_
      rintro _ S' (⟨n, b', e1, i1, rfl, i3, i4, i5⟩ | ⟨e, e1, i1, rfl, i3, i4⟩)
      · refine x_istore_n dX11_reads_100 rfl ?_
        refine x_iload_n dX11_reads_101 rfl ?_
        refine x_topI ?_
        refine x_if_geI 152 dX11_reads_102 rfl (by omega) (fun c102 => ?_) (fun c102 => ?_)
        · refine x_iincN dX11_reads_152 rfl rfl ?_
          refine x_goto 87 dX11_reads_155 rfl ?_
          refine ih (k + 1) b' S' _ _ (by simp only [List.length_cons] at h1; omega) (fun j o' e => ?_) (h3.on i3 i5 i4) ((congrFun (congrFun i3.1 0) 29).trans h4) (by rw [← h5, exL, e1])
          obtain ⟨q1, q2⟩ := h2 (j + 1) o' (by rw [List.getElem?_cons_succ]; exact e)
          refine ⟨?_, q2⟩
          rw [show k + 1 + j = k + (j + 1) by omega]
          unfold OdAt at q1 ⊢
          rw [i3.2 21 (by omega) (by omega), i3.2 22 (by omega) (by omega)]
          exact q1
        · omega
      · refine x_istore_n dX11_reads_100 rfl ?_
        refine x_iload_n dX11_reads_101 rfl ?_
        refine x_if_geI 152 dX11_reads_102 rfl (by omega) (fun c102 => ?_) (fun c102 => ?_)
        · omega
        · refine x_ic _ ic_0 dX11_reads_105 ?_
          refine x_istore dX11_reads_106 rfl ?_
          refine x_st (sA_self S' 1) ?_
          refine k_rd_r S' d k _ Q (fun g hg => ?_) 38 0 _ (by omega) (fun u hu => by omega)
          refine x_aload_n dX11_reads_135 rfl ?_
          refine x_iload_n dX11_reads_136 rfl ?_
          refine x_inegI dX11_reads_137 ?_
          refine x_put dX11_reads_138 fp_X11_284 rfl rfl rfl ?_
          refine x_aload_n dX11_reads_141 rfl ?_
          refine x_iload_n dX11_reads_142 rfl ?_
          refine x_put dX11_reads_143 fp_X11_25 rfl rfl rfl ?_
          refine x_si _ si_m1000 dX11_reads_146 ?_
          refine x_iload_n dX11_reads_149 rfl ?_
          refine x_isubIN dX11_reads_150 ?_
          refine x_iretI dX11_reads_151 rfl ?_
          obtain ⟨m1, m2, m3, m4, m5, m6, m7⟩ := h3.on i3 h3.1.1 i4
          refine hbad e k _ (by rw [← h5, exL, e1]) ⟨⟨m2.1, nRow_copy m2.2 m2.1.2.2.1 hg⟩, m3, m4, m5, ⟨?_, rfl⟩, m7⟩
          show i32 (-(-(e : Int))) = nI e
          rw [Int.neg_neg, nI_i32]
set_option maxRecDepth 100000 in
set_option maxHeartbeats 4000000 in
theorem k_reads (S : amS) (a : Ar) (hs : List Ar) (tx : List Nat) (u0 u1 u2 ck co : Int32) (hc : mCore S a hs tx u0 u1 u2 ck co) (Q : Option Value → amS → Prop) (hp : ∀ e S', parse tx a.1 = .inl e → mCore S' a hs tx u0 u1 u2 ck co → Q (some (.int (i32 (-10 - (e : Int))))) S') (hx : ∀ l e k S', parse tx a.1 = .inr l → exL a l 0 = .inl (e, k) → mCore S' a hs tx u0 u1 u2 (nI e) (nI k) → Q (some (.int (i32 (-1000 - (k : Int))))) S') (hok : ∀ l b S', parse tx a.1 = .inr l → exL a l 0 = .inr b → mCore S' b (pushH hs a) tx u0 u1 u2 ck co → Q (some (.int (nI l.length))) S') : X shM mX11_reads 0 [.ref 0, .null, .null, .null, .null] [] S Q := by
  have hT : TxS S tx := hc.2.2.2.1
  have hl := hT.2.1
  have hd : 2 ≤ a.1 ∧ a.1 ≤ 4 := ⟨hc.1.1.1, hc.1.1.2.1⟩
  have keepPF : ∀ S', PF S S' → mCore S' a hs tx u0 u1 u2 ck co := fun S' h => hc.keep (fun i hi => h.2 i (by omega) (by omega)) (fun k hk => h.1 k (by omega) (by omega) (by omega))
  have hend : ∀ e S' (v : Int32), parse tx a.1 = .inl e → e ≤ 100 → PF S S' → S'.1 0 28 = nI e → X shM mX11_reads 65 [.ref 0, .int v, .null, .null, .null] [] S' Q := by
    intro e S' v e1 he hF h28
    refine x_aload_n dX11_reads_65 rfl ?_
    refine x_getIV dX11_reads_66 fl_X11_252 rfl (h28) ?_
    refine x_ic _ ic_m1 dX11_reads_69 ?_
    refine x_topI2 ?_
    refine x_icmp_eqI 81 dX11_reads_70 rfl (by omega) (by omega) (fun c70 => ?_) (fun c70 => ?_)
    · omega
    · refine x_bi _ bi_m10 dX11_reads_73 ?_
      refine x_aload_n dX11_reads_75 rfl ?_
      refine x_getIV dX11_reads_76 fl_X11_252 rfl (h28) ?_
      refine x_isubIN dX11_reads_79 ?_
      refine x_iretI dX11_reads_80 rfl ?_
      exact hp e S' e1 (keepPF S' hF)
  have hgo : ∀ l S' (v : Int32), parse tx a.1 = .inr l → PF S S' → S'.1 0 28 = i32 (-1) → S'.1 0 29 = nI l.length → Ods S' l → l.length ≤ 40 → X shM mX11_reads 65 [.ref 0, .int v, .null, .null, .null] [] S' Q := by
    intro l S' v e1 hF h28 h29 hO hl40
    refine x_aload_n dX11_reads_65 rfl ?_
    refine x_getIV dX11_reads_66 fl_X11_252 rfl (h28) ?_
    refine x_ic _ ic_m1 dX11_reads_69 ?_
    refine x_icmp_eqI 81 dX11_reads_70 rfl (by omega) (by omega) (fun c70 => ?_) (fun c70 => ?_)
    · refine x_aload_n dX11_reads_81 rfl ?_
      refine x_v0 (N := mX11_hold) dX11_reads_82 ml_X11_161 nv_X11_hold rfl rfl (k_hold S') ?_
      rintro _ _ ⟨rfl, g, rfl, hg⟩
      have hc1 := keepPF S' hF
      obtain ⟨m1, m3, m4, m5, m6, m7⟩ := hc1
      have hM : mMid (sA S' 2 g) a a hs tx u0 u1 u2 ck co := ⟨m1, ⟨m1.1, nRow_copy m1.2 m1.1.2.2.1 hg⟩, m3, m4, m5, m6, m7⟩
      refine x_ic _ ic_0 dX11_reads_85 ?_
      refine x_istore_n dX11_reads_86 rfl ?_
      exact k_rd_2 a hs tx u0 u1 u2 ck co v l hl40 Q (exL a l 0) (fun e k S2 z i => hx l e k S2 e1 z i) (fun b S2 z i => hok l b S2 e1 z i) l 0 a (sA S' 2 g) _ _ (by omega) (fun j o e => by rw [Nat.zero_add]; exact hO j o e) hM h29 rfl
    · exact absurd rfl c70
  have hF1 : PF S (sF (sF (sF S 0 (upd (S.1 0) 27 (nI 0))) 0 (upd ((sF S 0 (upd (S.1 0) 27 (nI 0))).1 0) 28 (i32 (-1)))) 0 (upd ((sF (sF S 0 (upd (S.1 0) 27 (nI 0))) 0 (upd ((sF S 0 (upd (S.1 0) 27 (nI 0))).1 0) 28 (i32 (-1)))).1 0) 29 (nI 0))) := (((PF.rf S).sF _ (Or.inl rfl)).sF _ (Or.inr (Or.inl rfl))).sF _ (Or.inr (Or.inr rfl))
  refine x_aload_n dX11_reads_0 rfl ?_
  refine x_ic _ ic_0 dX11_reads_1 ?_
  refine x_put dX11_reads_2 fp_X11_249 rfl rfl rfl ?_
  refine x_aload_n dX11_reads_5 rfl ?_
  refine x_ic _ ic_m1 dX11_reads_6 ?_
  refine x_put dX11_reads_7 fp_X11_252 rfl rfl rfl ?_
  refine x_aload_n dX11_reads_10 rfl ?_
  refine x_ic _ ic_0 dX11_reads_11 ?_
  refine x_put dX11_reads_12 fp_X11_268 rfl rfl rfl ?_
  refine x_aload_n dX11_reads_15 rfl ?_
  refine x_getR dX11_reads_16 fl_X11_7 rfl ?_
  refine x_bi _ bi_36 dX11_reads_19 ?_
  refine x_ialdN dX11_reads_21 rfl rfl (by omega) (hc.1.2.1) ?_
  refine x_istore_n dX11_reads_22 rfl ?_
  refine x_aload_n dX11_reads_23 rfl ?_
  refine x_aload_n dX11_reads_24 rfl ?_
  refine x_v0 (N := mX11_here) dX11_reads_25 ml_X11_259 nv_X11_here rfl rfl (k_here0 _ tx 0 (Nat.zero_le _) (hT.pf hF1) rfl) ?_
  rintro _ S1 ⟨rfl, hA⟩
  have hF2 := hF1.at hA
  by_cases hs : sk tx 0 < tx.length
  · rw [hv_in hs]
    have hc127 := (hT.c hs).1
    refine x_ic _ ic_m1 dX11_reads_28 ?_
    refine x_topI2 ?_
    refine x_icmp_eqI 36 dX11_reads_29 rfl (by omega) (by omega) (fun c29 => ?_) (fun c29 => ?_)
    · omega
    · refine x_ic _ ic_1 dX11_reads_32 ?_
      refine x_goto 37 dX11_reads_33 rfl ?_
      refine x_v1n (N := mX11_must) dX11_reads_37 ml_X11_255 nv_X11_must rfl rfl (k_must_t S1 true rfl) ?_
      exact k_rd_1 S tx hT Q (parse tx a.1) (fun e S' v e1 he i1 i2 => hend e S' v e1 he i1 i2) (fun l S' v e1 i1 i2 i3 i4 i5 => hgo l S' v e1 i1 i2 i3 i4 i5) 34 a.1 (sk tx 0) [] S1 (by omega) (by omega) (Nat.zero_le _) hd hF2 hA.2.2 (hA.1 28 (by omega)) (hA.1 29 (by omega)) (fun k o e => by simp at e) (by rw [sk_sk]; exact hs) (by unfold parse; unfold rdAll; rw [rdOrd_sk])
  · rw [hv_end hs]
    have hle := sk_le (Nat.zero_le tx.length)
    refine x_ic _ ic_m1 dX11_reads_28 ?_
    refine x_icmp_eqI 36 dX11_reads_29 rfl (by omega) (by omega) (fun c29 => ?_) (fun c29 => ?_)
    · refine x_ic _ ic_0 dX11_reads_36 ?_
      refine x_v1n (N := mX11_must) dX11_reads_37 ml_X11_255 nv_X11_must rfl rfl (k_must_f S1 false rfl (hA.1 28 (by omega))) ?_
      refine x_aload_n dX11_reads_40 rfl ?_
      refine x_getIV dX11_reads_41 fl_X11_252 rfl (hA.2.2) ?_
      refine x_ic _ ic_m1 dX11_reads_44 ?_
      refine x_topI2 ?_
      refine x_icmp_neI 65 dX11_reads_45 rfl (by omega) (by omega) (fun c45 => ?_) (fun c45 => ?_)
      · refine hend (sk tx 0) _ _ ?_ (by omega) (hF2.sF _ (Or.inr (Or.inl rfl))) hA.2.2
        unfold parse rdAll rdOrd
        rw [ch_end (tx := tx) (p := sk tx 0) (by omega), if_pos (show cnt 200 a.1 = 0 from by simp [cnt])]
      · have := sk_le (Nat.zero_le tx.length); omega
    · exact absurd rfl c29
