/-! THE CLASS: commands, the whole text -/
def OdX (S : amS) (n : Nat) (o : Od) : Prop := S.2.1 49 n = nI o.1 ∧ ∀ t, t < 4 → S.2.1 50 (4 * n + t) = i32 (o.2 t)
def KpX (n : Nat) (S0 S : amS) : Prop := ∀ k, k < n → S.2.1 49 k = S0.2.1 49 k ∧ ∀ t, t < 4 → S.2.1 50 (4 * k + t) = S0.2.1 50 (4 * k + t)
def FS (S0 S : amS) : Prop := FO [47] [49, 50] S0 S ∧ S.1 47 3 = S0.1 47 3
theorem FS.txt {S0 S : amS} {tx : List Nat} (h : FS S0 S) (ht : txtX S0 tx) : txtX S tx := by
  obtain ⟨h1, h2, h3⟩ := ht
  refine ⟨by rw [h.2]; exact h1, h2, ?_⟩
  rw [h.1.2.1 48 (by decide)]
  exact h3
theorem FS.rf (S : amS) : FS S S := ⟨FO.rf _ _ S, rfl⟩
theorem FS.tr {S S1 S2 : amS} (h : FS S S1) (g : FS S1 S2) : FS S S2 := ⟨h.1.tr g.1, g.2.trans h.2⟩
theorem FS.cur {S0 S : amS} (h : FS S0 S) (q : Nat) : FS S0 (cur S q) := ⟨h.1.sF _ (by decide), by rw [cur_n S q (by decide)]; exact h.2⟩
theorem FS.row {S0 S : amS} (h : FS S0 S) {r : Nat} (g : Nat → Int32) (hr : r ∈ [49, 50]) : FS S0 (sA S r g) := ⟨h.1.sA g hr, h.2⟩
/-- within a command: its letter and numbers f so far, the cursor at q -/
def CmS (S0 S : amS) (n L : Nat) (f : Nat → Int) (q : Nat) : Prop := FS S0 S ∧ S.1 47 4 = nI n ∧ S.1 47 5 = nI q ∧ OdX S n (L, f) ∧ KpX n S0 S
set_option maxRecDepth 100000 in
set_option maxHeartbeats 4000000 in
theorem kx_rc_z (S0 : amS) (d L m n q : Nat) (hn : n < 34) (Q : Option Value → amS → Prop) (hq : ∀ S, CmS S0 S n L (fun _ => 0) q → X shX mX9_readCommand 94 [.ref 47, .int (nI d), .int (nI L), .int (nI m), .int (nI 4)] [] S Q) : ∀ (e k : Nat) (S : amS), k + e = 4 → FS S0 S → S.1 47 4 = nI n → S.1 47 5 = nI q → S.2.1 49 n = nI L → (∀ t, t < k → S.2.1 50 (4 * n + t) = i32 0) → KpX n S0 S → X shX mX9_readCommand 67 [.ref 47, .int (nI d), .int (nI L), .int (nI m), .int (nI k)] [] S Q := by
  intro e
  induction e with
  | zero =>
    intro k S h1 h2 h3 h4 h5 h6 h7
    obtain rfl : k = 4 := by omega
    refine x_iload dX9_readCommand_67 rfl ?_
    refine x_ic _ ic_4 dX9_readCommand_69 ?_
    refine x_icmp_geN 94 dX9_readCommand_70 rfl (by omega) (by omega) (fun c70 => ?_) (fun c70 => ?_)
    · exact hq S ⟨h2, h3, h4, ⟨h5, h6⟩, h7⟩
    · exact absurd c70 (by omega)
  | succ e ih =>
    intro k S h1 h2 h3 h4 h5 h6 h7
    refine x_iload dX9_readCommand_67 rfl ?_
    refine x_ic _ ic_4 dX9_readCommand_69 ?_
    refine x_icmp_geN 94 dX9_readCommand_70 rfl (by omega) (by omega) (fun c70 => ?_) (fun c70 => ?_)
    · exact absurd c70 (by omega)
    · refine x_aload_n dX9_readCommand_73 rfl ?_
      refine x_getR dX9_readCommand_74 fl_X9_19 rfl ?_
      refine x_aload_n dX9_readCommand_77 rfl ?_
      refine x_getIV dX9_readCommand_78 fl_X9_26 rfl (h3) ?_
      refine x_ic _ ic_4 dX9_readCommand_81 ?_
      refine x_imulN dX9_readCommand_82 ?_
      refine x_iload dX9_readCommand_83 rfl ?_
      refine x_iaddN dX9_readCommand_85 ?_
      refine x_ic _ ic_0 dX9_readCommand_86 ?_
      refine x_iastN dX9_readCommand_87 rfl rfl (by omega) ?_
      refine x_iincN dX9_readCommand_88 rfl rfl ?_
      refine x_goto 67 dX9_readCommand_91 rfl ?_
      refine ih (k + 1) _ (by omega) (h2.row _ (by decide)) h3 h4 ?_ (fun t ht => ?_) (fun j hj => ⟨?_, fun t ht => ?_⟩)
      · rw [sA_ne _ _ (by decide)]; exact h5
      · rw [sA_at]
        by_cases q : t = k
        · rw [q, show 4 * n + k = n * 4 + k by omega, upd_s]; rfl
        · rw [upd_n _ _ (by omega)]; exact h6 t (by omega)
      · rw [sA_ne _ _ (by decide)]; exact (h7 j hj).1
      · rw [sA_at, upd_n _ _ (by omega)]; exact (h7 j hj).2 t ht
set_option maxRecDepth 100000 in
set_option maxHeartbeats 4000000 in
theorem kx_rc_n (S0 : amS) (tx : List Nat) (ht : txtX S0 tx) (d L m n p1 : Nat) (hn : n < 34) (hL : L ≤ 127) (hm : m ≤ 4) (hp1 : p1 ≤ tx.length) (Q : Option Value → amS → Prop) (hbad : ∀ S e, rdNs tx L p1 m = .inl e → FS S0 S → S.1 47 5 = nI e → Q (some (.int (nI 0))) S) (hq : ∀ S f q, rdNs tx L p1 m = .inr (f, q) → CmS S0 S n L f q → X shX mX9_readCommand 128 [.ref 47, .int (nI d), .int (nI L), .int (nI m), .int (nI m)] [] S Q) : ∀ (e k : Nat) (f : Nat → Int) (q : Nat) (S : amS), k + e = m → rdNs tx L p1 k = .inr (f, q) → CmS S0 S n L f q → X shX mX9_readCommand 97 [.ref 47, .int (nI d), .int (nI L), .int (nI m), .int (nI k)] [] S Q := by
  intro e
  induction e with
  | zero =>
    intro k f q S h1 h2 h3
    obtain rfl : k = m := by omega
    refine x_iload dX9_readCommand_97 rfl ?_
    refine x_iload_n dX9_readCommand_99 rfl ?_
    refine x_icmp_geN 128 dX9_readCommand_100 rfl (by omega) (by omega) (fun c100 => ?_) (fun c100 => ?_)
    · exact hq S f q h2 h3
    · exact absurd c100 (by omega)
  | succ e ih =>
    intro k f q S h1 h2 h3
    obtain ⟨g1, g2, g3, ⟨g4, g5⟩, g6⟩ := id h3
    have htS := g1.txt ht
    have hq1 := (rdNs_ok hp1 k f q h2).2.1
    refine x_iload dX9_readCommand_97 rfl ?_
    refine x_iload_n dX9_readCommand_99 rfl ?_
    refine x_icmp_geN 128 dX9_readCommand_100 rfl (by omega) (by omega) (fun c100 => ?_) (fun c100 => ?_)
    · exact absurd c100 (by omega)
    · refine x_aload_n dX9_readCommand_103 rfl ?_
      refine x_iload_n dX9_readCommand_104 rfl ?_
      refine x_aload_n dX9_readCommand_105 rfl ?_
      refine x_getIV dX9_readCommand_106 fl_X9_26 rfl (g2) ?_
      refine x_ic _ ic_4 dX9_readCommand_109 ?_
      refine x_imulN dX9_readCommand_110 ?_
      refine x_iload dX9_readCommand_111 rfl ?_
      refine x_iaddN dX9_readCommand_113 ?_
      refine x_v2 (N := mX9_readNumber) dX9_readCommand_114 ml_X9_46 nv_X9_readNumber rfl rfl (kx_readNumber S tx htS q g3 hq1 L (n * 4 + k) hL (by omega)) ?_
      rintro _ _ (⟨e0, he, rfl, rfl⟩ | ⟨x, q2, hx, rfl, rfl⟩)
      · refine x_if_neN 122 dX9_readCommand_117 rfl (by omega) (fun c117 => ?_) (fun c117 => ?_)
        · exact absurd rfl c117
        · refine x_ic _ ic_0 dX9_readCommand_120 ?_
          refine x_zret0 dX9_readCommand_121 rfl ?_
          refine hbad _ e0 (rdNs_no (k := k + 1) (by rw [rdNs, h2]; simp only [he]) m (by omega)) (g1.cur e0) (cur_at _ _)
      · refine x_if_neN 122 dX9_readCommand_117 rfl (by omega) (fun c117 => ?_) (fun c117 => ?_)
        · refine x_iincN dX9_readCommand_122 rfl rfl ?_
          refine x_goto 97 dX9_readCommand_125 rfl ?_
          refine ih (k + 1) (fun i => if i = k then x else f i) q2 _ (by omega) (by rw [rdNs, h2]; simp only [hx]) ⟨(g1.row _ (by decide)).cur q2, ?_, cur_at _ _, ⟨?_, fun t ht => ?_⟩, fun j hj => ⟨?_, fun t ht => ?_⟩⟩
          · rw [cur_n _ _ (by decide)]; exact g2
          · show (sA S 50 _).2.1 49 n = _
            rw [sA_ne _ _ (by decide)]; exact g4
          · show (sA S 50 _).2.1 50 _ = i32 (if t = k then x else f t)
            rw [sA_at]
            by_cases z : t = k
            · rw [z, if_pos rfl, show 4 * n + k = n * 4 + k by omega, upd_s]
            · rw [if_neg z, upd_n _ _ (by omega)]; exact g5 t ht
          · show (sA S 50 _).2.1 49 j = _
            rw [sA_ne _ _ (by decide)]; exact (g6 j hj).1
          · show (sA S 50 _).2.1 50 _ = _
            rw [sA_at, upd_n _ _ (by omega)]; exact (g6 j hj).2 t ht
        · omega
set_option maxRecDepth 100000 in
set_option maxHeartbeats 4000000 in
theorem kx_readCommand (S : amS) (tx : List Nat) (ht : txtX S tx) (d p n : Nat) (hd : 2 ≤ d ∧ d ≤ 4) (hp : S.1 47 5 = nI p) (hpl : p ≤ tx.length) (hsk : sk tx p = p) (hn : S.1 47 4 = nI n) (hn34 : n < 34) : X shX mX9_readCommand 0 [.ref 47, .int (nI d), .null, .null, .null] [] S (fun r S' => (∃ o q, rdOrd tx d p = .inr (o, q) ∧ r = some (.int (nI 1)) ∧ FS S S' ∧ S'.1 47 5 = nI q ∧ S'.1 47 4 = nI (n + 1) ∧ OdX S' n o ∧ KpX n S S') ∨ (∃ e, rdOrd tx d p = .inl e ∧ r = some (.int (nI 0)) ∧ FS S S' ∧ S'.1 47 5 = nI e)) := by
  have h100 : tx.length ≤ 100 := ht.2.1
  refine x_aload_n dX9_readCommand_0 rfl ?_
  refine x_getIV dX9_readCommand_1 fl_X9_29 rfl (hp) ?_
  refine x_aload_n dX9_readCommand_4 rfl ?_
  refine x_getIV dX9_readCommand_5 fl_X9_22 rfl (ht.1) ?_
  refine x_icmp_geN 20 dX9_readCommand_8 rfl (by omega) (by omega) (fun c8 => ?_) (fun c8 => ?_)
  · refine x_ic _ ic_0 dX9_readCommand_20 ?_
    refine x_zret0 dX9_readCommand_21 rfl ?_
    refine Or.inr ⟨p, ?_, rfl, FS.rf S, hp⟩
    unfold rdOrd
    rw [hsk, ch_end c8, if_pos (by unfold cnt; simp)]
  · refine x_aload_n dX9_readCommand_11 rfl ?_
    refine x_getIV dX9_readCommand_12 fl_X9_26 rfl (hn) ?_
    refine x_bi _ bi_34 dX9_readCommand_15 ?_
    refine x_icmp_ltN 22 dX9_readCommand_17 rfl (by omega) (by omega) (fun c17 => ?_) (fun c17 => ?_)
    · obtain ⟨hc1, hc2⟩ := tx_at ht c8
      refine x_aload_n dX9_readCommand_22 rfl ?_
      refine x_getR dX9_readCommand_23 fl_X9_9 rfl ?_
      refine x_aload_n dX9_readCommand_26 rfl ?_
      refine x_getIV dX9_readCommand_27 fl_X9_29 rfl (hp) ?_
      refine x_baldN dX9_readCommand_30 rfl rfl (by omega) (hc2) ?_
      refine x_istore_n dX9_readCommand_31 rfl ?_
      refine x_iload_n dX9_readCommand_32 rfl ?_
      refine x_iload_n dX9_readCommand_33 rfl ?_
      refine x_s2d (N := mX9_countNumbers) dX9_readCommand_34 ml_X9_43 ns_X9_countNumbers rfl (kx_countNumbers S (ch tx p) d hc1) ?_
      refine x_istore_n dX9_readCommand_37 rfl ?_
      refine x_iload_n dX9_readCommand_38 rfl ?_
      refine x_if_neN 44 dX9_readCommand_39 rfl (by have := cnt_le (L := ch tx p) hd.2; omega) (fun c39 => ?_) (fun c39 => ?_)
      · refine x_aload_n dX9_readCommand_44 rfl ?_
        refine x_dup dX9_readCommand_45 rfl ?_
        refine x_getIV dX9_readCommand_46 fl_X9_29 rfl (hp) ?_
        refine x_ic _ ic_1 dX9_readCommand_49 ?_
        refine x_iaddN dX9_readCommand_50 ?_
        refine x_put dX9_readCommand_51 fp_X9_29 rfl rfl rfl ?_
        refine x_aload_n dX9_readCommand_54 rfl ?_
        refine x_getR dX9_readCommand_55 fl_X9_15 rfl ?_
        refine x_aload_n dX9_readCommand_58 rfl ?_
        refine x_getIV dX9_readCommand_59 fl_X9_26 rfl ((show _ = nI n by simp [sF, sA, va_up, upd]; exact hn)) ?_
        refine x_iload_n dX9_readCommand_62 rfl ?_
        refine x_iastN dX9_readCommand_63 rfl rfl (by omega) ?_
        refine x_ic _ ic_0 dX9_readCommand_64 ?_
        refine x_istore dX9_readCommand_65 rfl ?_
        have hcl := cnt_le (L := ch tx p) hd.2
        refine kx_rc_z S d (ch tx p) (cnt (ch tx p) d) n (p + 1) hn34 _ (fun S1 h1 => ?_) 4 0 _ (by omega) (((FS.rf S).cur (p + 1)).row _ (by decide)) ?_ (cur_at S (p + 1)) ?_ (fun t ht => absurd ht (Nat.not_lt_zero t)) (fun j hj => ⟨?_, fun t ht => ?_⟩)
        · refine x_ic _ ic_0 dX9_readCommand_94 ?_
          refine x_istore dX9_readCommand_95 rfl ?_
          refine kx_rc_n S tx ht d (ch tx p) (cnt (ch tx p) d) n (p + 1) hn34 hc1 hcl (by omega) _ (fun S2 e he hf hcu => ?_) (fun S2 f q hr hs => ?_) (cnt (ch tx p) d) 0 (fun _ => 0) (p + 1) S1 (by omega) rfl h1
          · refine Or.inr ⟨e, ?_, rfl, hf, hcu⟩
            unfold rdOrd
            rw [hsk, if_neg c39, he]
          · obtain ⟨g1, g2, g3, g4, g5⟩ := hs
            have hq1 := (rdNs_ok (by omega) (cnt (ch tx p) d) f q hr).2.1
            have htS := g1.txt ht
            refine x_aload_n dX9_readCommand_128 rfl ?_
            refine x_v0 (N := mX9_skipSpaces) dX9_readCommand_129 ml_X9_32 nv_X9_skipSpaces rfl rfl (kx_skip S2 tx htS q g3 hq1) ?_
            rintro _ _ ⟨rfl, rfl⟩
            refine x_aload_n dX9_readCommand_132 rfl ?_
            refine x_bi _ bi_59 dX9_readCommand_133 ?_
            refine x_bi _ bi_59 dX9_readCommand_135 ?_
            refine x_v2d (N := mX9_isBetween) dX9_readCommand_137 ml_X9_50 nv_X9_isBetween rfl rfl (kx_btw (cur S2 (sk tx q)) tx (cur_txt htS _) (sk tx q) (cur_at _ _) (sk_le hq1) 59 59 (by omega) (by omega)) ?_
            refine x_if_neB 145 dX9_readCommand_140 rfl (fun c140 => ?_) (fun c140 => ?_)
            · refine x_aload_n dX9_readCommand_145 rfl ?_
              refine x_dup dX9_readCommand_146 rfl ?_
              refine x_getIV dX9_readCommand_147 fl_X9_29 rfl (cur_at _ _) ?_
              refine x_ic _ ic_1 dX9_readCommand_150 ?_
              refine x_iaddN dX9_readCommand_151 ?_
              refine x_put dX9_readCommand_152 fp_X9_29 rfl rfl rfl ?_
              refine x_aload_n dX9_readCommand_155 rfl ?_
              refine x_dup dX9_readCommand_156 rfl ?_
              refine x_getIV dX9_readCommand_157 fl_X9_26 rfl ((show _ = nI n from (cur_n _ _ (by decide)).trans ((cur_n _ _ (by decide)).trans g2))) ?_
              refine x_ic _ ic_1 dX9_readCommand_160 ?_
              refine x_iaddN dX9_readCommand_161 ?_
              refine x_put dX9_readCommand_162 fp_X9_26 rfl rfl rfl ?_
              refine x_ic _ ic_1 dX9_readCommand_165 ?_
              refine x_zret1 dX9_readCommand_166 rfl ?_
              have h59 : ch tx (sk tx q) = 59 := by have := of_decide_eq_true c140; omega
              refine Or.inl ⟨(ch tx p, f), sk tx q + 1, ?_, rfl, ?_, ?_, ?_, g4, g5⟩
              · unfold rdOrd
                rw [hsk, if_neg c39, hr]
                simp only [if_pos h59]
              · exact ⟨(((g1.cur _).cur (sk tx q + 1)).1.sF _ (by decide)), by rw [sF_at, upd_n _ _ (by decide)]; exact ((g1.cur _).cur (sk tx q + 1)).2⟩
              · rw [sF_at, upd_n _ _ (by decide)]; exact cur_at _ _
              · rw [sF_at, upd_s]
            · have h59 : ch tx (sk tx q) ≠ 59 := fun z => (of_decide_eq_false c140) ⟨by omega, by omega⟩
              refine x_ic _ ic_0 dX9_readCommand_143 ?_
              refine x_zret0 dX9_readCommand_144 rfl ?_
              refine Or.inr ⟨sk tx q, ?_, rfl, g1.cur _, cur_at _ _⟩
              unfold rdOrd
              rw [hsk, if_neg c39, hr]
              simp only [if_neg h59]
        · exact (cur_n S (p + 1) (k := 4) (by decide)).trans hn
        · rw [sA_at, upd_s]
        · rw [sA_at, upd_n _ _ (by omega)]; rfl
        · rw [sA_ne _ _ (by decide)]; rfl
      · refine x_ic _ ic_0 dX9_readCommand_42 ?_
        refine x_zret0 dX9_readCommand_43 rfl ?_
        refine Or.inr ⟨p, ?_, rfl, FS.rf S, hp⟩
        unfold rdOrd
        rw [hsk, if_pos c39]
    · exact absurd c17 (by omega)
theorem rdAll_sk (tx : List Nat) (f d p : Nat) (acc : List Od) : rdAll tx f d (sk tx p) acc = rdAll tx f d p acc := by
  cases f with
  | zero => rfl
  | succ f => rw [rdAll, rdAll, show rdOrd tx d (sk tx p) = rdOrd tx d p by unfold rdOrd; rw [sk_sk]]
set_option maxRecDepth 100000 in
set_option maxHeartbeats 4000000 in
theorem kx_number (S : amS) (n k : Nat) (hn : n < 34) (hk : k < 4) (y : Int32) (hy : S.2.1 50 (4 * n + k) = y) : X shX mX9_number 0 [.ref 47, .int (nI n), .int (nI k)] [] S (fun r S' => r = some (.int y) ∧ S' = S) := by
  refine x_aload_n dX9_number_0 rfl ?_
  refine x_getR dX9_number_1 fl_X9_19 rfl ?_
  refine x_iload_n dX9_number_4 rfl ?_
  refine x_ic _ ic_4 dX9_number_5 ?_
  refine x_imulN dX9_number_6 ?_
  refine x_iload_n dX9_number_7 rfl ?_
  refine x_iaddN dX9_number_8 ?_
  refine x_ialdN dX9_number_9 rfl rfl (by omega) ((show S.2.1 50 (n * 4 + k) = y by rw [Nat.mul_comm n 4]; exact hy)) ?_
  refine x_iretI dX9_number_10 rfl ?_
  exact ⟨rfl, rfl⟩
set_option maxRecDepth 100000 in
set_option maxHeartbeats 4000000 in
theorem kx_verb (S : amS) (n : Nat) (hn : n < 34) (y : Int32) (hy : S.2.1 49 n = y) : X shX mX9_verb 0 [.ref 47, .int (nI n)] [] S (fun r S' => r = some (.int y) ∧ S' = S) := by
  refine x_aload_n dX9_verb_0 rfl ?_
  refine x_getR dX9_verb_1 fl_X9_15 rfl ?_
  refine x_iload_n dX9_verb_4 rfl ?_
  refine x_ialdN dX9_verb_5 rfl rfl (by omega) (hy) ?_
  refine x_iretI dX9_verb_6 rfl ?_
  exact ⟨rfl, rfl⟩
def PsX (S0 S : amS) (acc : List Od) : Prop := FS S0 S ∧ S.1 47 4 = nI acc.length ∧ ∀ (k : Nat) (o : Od), acc[k]? = some o → OdX S k o ∧ OdOK o
set_option maxRecDepth 100000 in
set_option maxHeartbeats 4000000 in
theorem kx_ps_l (S0 : amS) (tx : List Nat) (ht : txtX S0 tx) (d0 : Nat) (Q : Option Value → amS → Prop) (Rs : Nat ⊕ List Od) (hbad : ∀ S e, Rs = .inl e → e ≤ tx.length → FS S0 S → Q (some (.int (nI e))) S) (hok : ∀ S l, Rs = .inr l → l.length ≤ 34 → PsX S0 S l → Q (some (.int (i32 (-1)))) S) : ∀ (f d p : Nat) (acc : List Od) (S : amS), acc.length + f = 34 → 3 * acc.length ≤ p → p ≤ tx.length → 2 ≤ d ∧ d ≤ 4 → PsX S0 S acc → S.1 47 5 = nI p → sk tx p = p → (acc.length = 0 ∨ p < tx.length) → rdAll tx f d p acc = Rs → X shX mX9_parse 41 [.ref 47, .int (nI d0), .int (nI d), .int (nI acc.length)] [] S Q := by
  have h100 : tx.length ≤ 100 := ht.2.1
  intro f
  induction f with
  | zero => intro d p acc S h1 h2 h3; omega
  | succ f ih =>
    intro d p acc S h1 h2 h3 hd h4 h5 h6 h7 h8
    obtain ⟨g1, g2, g3⟩ := id h4
    have htS := g1.txt ht
    refine x_aload_n dX9_parse_41 rfl ?_
    refine x_iload_n dX9_parse_42 rfl ?_
    refine x_v1 (N := mX9_readCommand) dX9_parse_43 ml_X9_35 nv_X9_readCommand rfl rfl (kx_readCommand S tx htS d p acc.length hd h5 h3 h6 g2 (by omega)) ?_
    rintro _ S1 (⟨o, q, k1, rfl, k2, k3, k4, k5, k6⟩ | ⟨e, k1, rfl, k2, k3⟩)
    · obtain ⟨hq1, hq2, hoO⟩ := rdOrd_ok hd h3 k1
      have ho127 : o.1 ≤ 127 := by have := hoO.1; omega
      refine x_if_neN 54 dX9_parse_46 rfl (by omega) (fun c46 => ?_) (fun c46 => ?_)
      · refine x_aload_n dX9_parse_54 rfl ?_
        refine x_getR dX9_parse_55 fl_X9_15 rfl ?_
        refine x_iload_n dX9_parse_58 rfl ?_
        refine x_ialdN dX9_parse_59 rfl rfl (by omega) (k5.1) ?_
        refine x_bi _ bi_100 dX9_parse_60 ?_
        refine x_icmp_neN 72 dX9_parse_62 rfl (by omega) (by omega) (fun c62 => ?_) (fun c62 => ?_)
        · refine x_loc (show _ = [Value.ref 47, .int (nI d0), .int (nI (nxD d o)), .int (nI acc.length)] by unfold nxD; rw [if_neg c62]) ?_
          refine x_aload_n dX9_parse_72 rfl ?_
          refine x_v0 (N := mX9_skipSpaces) dX9_parse_73 ml_X9_32 nv_X9_skipSpaces rfl rfl (kx_skip S1 tx (k2.txt htS) q k3 hq2) ?_
          rintro _ _ ⟨rfl, rfl⟩
          refine x_iincN dX9_parse_76 rfl rfl ?_
          refine x_goto 18 dX9_parse_79 rfl ?_
          have hP : PsX S0 (cur S1 (sk tx q)) (acc ++ [o]) := by
            refine ⟨(g1.tr k2).cur _, ?_, fun j o2 hj => ?_⟩
            · rw [cur_n _ _ (by decide), List.length_append]; exact k4
            · by_cases z : j = acc.length
              · rw [z, List.getElem?_append_right (Nat.le_refl _)] at hj
                simp at hj
                rw [z, ← hj]
                exact ⟨k5, hoO⟩
              · have hjl : j < acc.length := by
                  have := (List.getElem?_eq_some_iff.mp hj).1
                  rw [List.length_append] at this
                  simp at this
                  omega
                rw [List.getElem?_append_left hjl] at hj
                obtain ⟨y1, y2⟩ := g3 j o2 hj
                refine ⟨⟨(k6 j hjl).1.trans y1.1, fun t ht => ((k6 j hjl).2 t ht).trans (y1.2 t ht)⟩, y2⟩
          have hlen : (acc ++ [o]).length = acc.length + 1 := by rw [List.length_append]; rfl
          have hle2 := sk_le hq2
          have hge2 := sk_ge tx q
          by_cases z : sk tx q < tx.length
          · have hal : acc.length + 1 < 34 := by omega
            refine x_iload_n dX9_parse_18 rfl ?_
            refine x_bi _ bi_34 dX9_parse_19 ?_
            refine x_icmp_geN 82 dX9_parse_21 rfl (by omega) (by omega) (fun c21 => ?_) (fun c21 => ?_)
            · exact absurd c21 (by omega)
            · refine x_iload_n dX9_parse_24 rfl ?_
              refine x_topI ?_
              refine x_if_leI 41 dX9_parse_25 rfl (by omega) (fun c25 => ?_) (fun c25 => ?_)
              · exact absurd c25 (by omega)
              · refine x_aload_n dX9_parse_28 rfl ?_
                refine x_getIV dX9_parse_29 fl_X9_29 rfl (cur_at _ _) ?_
                refine x_aload_n dX9_parse_32 rfl ?_
                refine x_getIV dX9_parse_33 fl_X9_22 rfl (((k2.txt htS).1)) ?_
                refine x_icmp_ltN 41 dX9_parse_36 rfl (by omega) (by omega) (fun c36 => ?_) (fun c36 => ?_)
                · have h9 := ih (nxD d o) (sk tx q) (acc ++ [o]) (cur S1 (sk tx q)) (by omega) (by omega) hle2 (nxD_ok hd hoO) hP (cur_at _ _) (sk_sk tx q) (Or.inr z) ?_
                  · rw [hlen] at h9
                    exact h9
                  · rw [← h8, rdAll, k1]
                    simp only [if_pos z]
                    exact rdAll_sk tx _ _ q _
                · exact absurd c36 (by omega)
          · have hal : acc.length + 1 ≤ 34 := by omega
            refine x_iload_n dX9_parse_18 rfl ?_
            refine x_bi _ bi_34 dX9_parse_19 ?_
            refine x_icmp_geN 82 dX9_parse_21 rfl (by omega) (by omega) (fun c21 => ?_) (fun c21 => ?_)
            · exact absurd h2 (by omega)
            · refine x_iload_n dX9_parse_24 rfl ?_
              refine x_topI ?_
              refine x_if_leI 41 dX9_parse_25 rfl (by omega) (fun c25 => ?_) (fun c25 => ?_)
              · exact absurd c25 (by omega)
              · refine x_aload_n dX9_parse_28 rfl ?_
                refine x_getIV dX9_parse_29 fl_X9_29 rfl (cur_at _ _) ?_
                refine x_aload_n dX9_parse_32 rfl ?_
                refine x_getIV dX9_parse_33 fl_X9_22 rfl (((k2.txt htS).1)) ?_
                refine x_icmp_ltN 41 dX9_parse_36 rfl (by omega) (by omega) (fun c36 => ?_) (fun c36 => ?_)
                · exact absurd c36 (by omega)
                · refine x_ic _ ic_m1 dX9_parse_39 ?_
                  refine x_iretI dX9_parse_40 rfl ?_
                  refine hok _ (acc ++ [o]) ?_ (by omega) hP
                  rw [← h8, rdAll, k1]
                  simp only [if_neg z]
        · refine x_aload_n dX9_parse_65 rfl ?_
          refine x_iload_n dX9_parse_66 rfl ?_
          refine x_ic _ ic_0 dX9_parse_67 ?_
          refine x_v2d (N := mX9_number) dX9_parse_68 ml_X9_39 nv_X9_number rfl rfl (kx_number S1 acc.length 0 (by omega) (by omega) _ (k5.2 0 (by omega))) ?_
          refine x_istore_n dX9_parse_71 rfl ?_
          refine x_loc (show _ = [Value.ref 47, .int (nI d0), .int (nI (nxD d o)), .int (nI acc.length)] by unfold nxD; rw [if_pos c62, nI_i32 (o.2 0).toNat, Int.toNat_of_nonneg (by have := hoO.2.2.2 c62; omega)]; rfl) ?_
          refine x_aload_n dX9_parse_72 rfl ?_
          refine x_v0 (N := mX9_skipSpaces) dX9_parse_73 ml_X9_32 nv_X9_skipSpaces rfl rfl (kx_skip S1 tx (k2.txt htS) q k3 hq2) ?_
          rintro _ _ ⟨rfl, rfl⟩
          refine x_iincN dX9_parse_76 rfl rfl ?_
          refine x_goto 18 dX9_parse_79 rfl ?_
          have hP : PsX S0 (cur S1 (sk tx q)) (acc ++ [o]) := by
            refine ⟨(g1.tr k2).cur _, ?_, fun j o2 hj => ?_⟩
            · rw [cur_n _ _ (by decide), List.length_append]; exact k4
            · by_cases z : j = acc.length
              · rw [z, List.getElem?_append_right (Nat.le_refl _)] at hj
                simp at hj
                rw [z, ← hj]
                exact ⟨k5, hoO⟩
              · have hjl : j < acc.length := by
                  have := (List.getElem?_eq_some_iff.mp hj).1
                  rw [List.length_append] at this
                  simp at this
                  omega
                rw [List.getElem?_append_left hjl] at hj
                obtain ⟨y1, y2⟩ := g3 j o2 hj
                refine ⟨⟨(k6 j hjl).1.trans y1.1, fun t ht => ((k6 j hjl).2 t ht).trans (y1.2 t ht)⟩, y2⟩
          have hlen : (acc ++ [o]).length = acc.length + 1 := by rw [List.length_append]; rfl
          have hle2 := sk_le hq2
          have hge2 := sk_ge tx q
          by_cases z : sk tx q < tx.length
          · have hal : acc.length + 1 < 34 := by omega
            refine x_iload_n dX9_parse_18 rfl ?_
            refine x_bi _ bi_34 dX9_parse_19 ?_
            refine x_icmp_geN 82 dX9_parse_21 rfl (by omega) (by omega) (fun c21 => ?_) (fun c21 => ?_)
            · exact absurd c21 (by omega)
            · refine x_iload_n dX9_parse_24 rfl ?_
              refine x_topI ?_
              refine x_if_leI 41 dX9_parse_25 rfl (by omega) (fun c25 => ?_) (fun c25 => ?_)
              · exact absurd c25 (by omega)
              · refine x_aload_n dX9_parse_28 rfl ?_
                refine x_getIV dX9_parse_29 fl_X9_29 rfl (cur_at _ _) ?_
                refine x_aload_n dX9_parse_32 rfl ?_
                refine x_getIV dX9_parse_33 fl_X9_22 rfl (((k2.txt htS).1)) ?_
                refine x_icmp_ltN 41 dX9_parse_36 rfl (by omega) (by omega) (fun c36 => ?_) (fun c36 => ?_)
                · have h9 := ih (nxD d o) (sk tx q) (acc ++ [o]) (cur S1 (sk tx q)) (by omega) (by omega) hle2 (nxD_ok hd hoO) hP (cur_at _ _) (sk_sk tx q) (Or.inr z) ?_
                  · rw [hlen] at h9
                    exact h9
                  · rw [← h8, rdAll, k1]
                    simp only [if_pos z]
                    exact rdAll_sk tx _ _ q _
                · exact absurd c36 (by omega)
          · have hal : acc.length + 1 ≤ 34 := by omega
            refine x_iload_n dX9_parse_18 rfl ?_
            refine x_bi _ bi_34 dX9_parse_19 ?_
            refine x_icmp_geN 82 dX9_parse_21 rfl (by omega) (by omega) (fun c21 => ?_) (fun c21 => ?_)
            · exact absurd h2 (by omega)
            · refine x_iload_n dX9_parse_24 rfl ?_
              refine x_topI ?_
              refine x_if_leI 41 dX9_parse_25 rfl (by omega) (fun c25 => ?_) (fun c25 => ?_)
              · exact absurd c25 (by omega)
              · refine x_aload_n dX9_parse_28 rfl ?_
                refine x_getIV dX9_parse_29 fl_X9_29 rfl (cur_at _ _) ?_
                refine x_aload_n dX9_parse_32 rfl ?_
                refine x_getIV dX9_parse_33 fl_X9_22 rfl (((k2.txt htS).1)) ?_
                refine x_icmp_ltN 41 dX9_parse_36 rfl (by omega) (by omega) (fun c36 => ?_) (fun c36 => ?_)
                · exact absurd c36 (by omega)
                · refine x_ic _ ic_m1 dX9_parse_39 ?_
                  refine x_iretI dX9_parse_40 rfl ?_
                  refine hok _ (acc ++ [o]) ?_ (by omega) hP
                  rw [← h8, rdAll, k1]
                  simp only [if_neg z]
      · exact absurd c46 (by omega)
    · refine x_if_neN 54 dX9_parse_46 rfl (by omega) (fun c46 => ?_) (fun c46 => ?_)
      · exact absurd rfl c46
      · refine x_aload_n dX9_parse_49 rfl ?_
        refine x_getIV dX9_parse_50 fl_X9_29 rfl (k3) ?_
        refine x_iretI dX9_parse_53 rfl ?_
        refine hbad S1 e ?_ (rdOrd_no hd h3 k1) (g1.tr k2) 
        rw [← h8, rdAll, k1]
set_option maxRecDepth 100000 in
set_option maxHeartbeats 4000000 in
theorem kx_parse (S : amS) (tx : List Nat) (ht : txtX S tx) (d : Nat) (hd : 2 ≤ d ∧ d ≤ 4) : X shX mX9_parse 0 [.ref 47, .int (nI d), .null, .null] [] S (fun r S' => (∃ e, parse tx d = .inl e ∧ e ≤ tx.length ∧ r = some (.int (nI e)) ∧ FS S S') ∨ (∃ l, parse tx d = .inr l ∧ l.length ≤ 34 ∧ r = some (.int (i32 (-1))) ∧ PsX S S' l)) := by
  refine x_iload_n dX9_parse_0 rfl ?_
  refine x_istore_n dX9_parse_1 rfl ?_
  refine x_aload_n dX9_parse_2 rfl ?_
  refine x_ic _ ic_0 dX9_parse_3 ?_
  refine x_put dX9_parse_4 fp_X9_26 rfl rfl rfl ?_
  refine x_aload_n dX9_parse_7 rfl ?_
  refine x_ic _ ic_0 dX9_parse_8 ?_
  refine x_put dX9_parse_9 fp_X9_29 rfl rfl rfl ?_
  have e4 : (sF (sF S 47 (upd (S.1 47) 4 (nI 0))) 47 (upd ((sF S 47 (upd (S.1 47) 4 (nI 0))).1 47) 5 (nI 0))).1 47 4 = nI 0 := by simp [sF, sA, va_up, upd]
  have e5 : (sF (sF S 47 (upd (S.1 47) 4 (nI 0))) 47 (upd ((sF S 47 (upd (S.1 47) 4 (nI 0))).1 47) 5 (nI 0))).1 47 5 = nI 0 := by simp [sF, sA, va_up, upd]
  have f0 : FS S (sF (sF S 47 (upd (S.1 47) 4 (nI 0))) 47 (upd ((sF S 47 (upd (S.1 47) 4 (nI 0))).1 47) 5 (nI 0))) := ⟨((FO.rf _ _ S).sF _ (by decide)).sF _ (by decide), by simp [sF, sA, va_up, upd]⟩
  generalize sF (sF S 47 (upd (S.1 47) 4 (nI 0))) 47 (upd ((sF S 47 (upd (S.1 47) 4 (nI 0))).1 47) 5 (nI 0)) = T at e4 e5 f0 ⊢
  refine x_aload_n dX9_parse_12 rfl ?_
  refine x_v0 (N := mX9_skipSpaces) dX9_parse_13 ml_X9_32 nv_X9_skipSpaces rfl rfl (kx_skip T tx (f0.txt ht) 0 e5 (Nat.zero_le _)) ?_
  rintro _ _ ⟨rfl, rfl⟩
  refine x_ic _ ic_0 dX9_parse_16 ?_
  refine x_istore_n dX9_parse_17 rfl ?_
  refine x_iload_n dX9_parse_18 rfl ?_
  refine x_bi _ bi_34 dX9_parse_19 ?_
  refine x_icmp_geN 82 dX9_parse_21 rfl (by omega) (by omega) (fun c21 => ?_) (fun c21 => ?_)
  · exact absurd c21 (by omega)
  · refine x_iload_n dX9_parse_24 rfl ?_
    refine x_topI ?_
    refine x_if_leI 41 dX9_parse_25 rfl (by omega) (fun c25 => ?_) (fun c25 => ?_)
    · exact kx_ps_l S tx ht d _ (parse tx d) (fun S2 e h1 h2 h3 => Or.inl ⟨e, h1, h2, rfl, h3⟩) (fun S2 l h1 h2 h3 => Or.inr ⟨l, h1, h2, rfl, h3⟩) 34 d (sk tx 0) [] _ rfl (Nat.zero_le _) (sk_le (Nat.zero_le _)) hd ⟨f0.cur _, by rw [cur_n _ _ (by decide)]; exact e4, fun k o h => by simp at h⟩ (cur_at _ _) (sk_sk tx 0) (Or.inl rfl) (rdAll_sk tx 34 d 0 [])
    · exact absurd c25 (by omega)
