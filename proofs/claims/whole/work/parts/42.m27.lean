/-! THE REFERENCE: readOrder -/
def PF (S0 S : amS) : Prop := (∀ k, k ≠ 27 → k ≠ 28 → k ≠ 29 → S.1 0 k = S0.1 0 k) ∧ ∀ i, i ≠ 21 → i ≠ 22 → S.2.1 i = S0.2.1 i
theorem PF.rf (S : amS) : PF S S := ⟨fun _ _ _ _ => rfl, fun _ _ _ => rfl⟩
theorem PF.at {S0 S S1 : amS} {p : Nat} (h : PF S0 S) (hA : At S S1 p) : PF S0 S1 := ⟨fun k a b c => (hA.1 k a).trans (h.1 k a b c), fun i a b => by rw [hA.2.1]; exact h.2 i a b⟩
theorem PF.fl {S0 S S1 : amS} {p : Nat} (h : PF S0 S) (hA : Flt S S1 p) : PF S0 S1 := ⟨fun k a b c => (hA.1 k a b).trans (h.1 k a b c), fun i a b => by rw [hA.2.1]; exact h.2 i a b⟩
theorem PF.sA {S0 S : amS} (h : PF S0 S) {o : Nat} (f : Nat → Int32) (ho : o = 21 ∨ o = 22) : PF S0 (sA S o f) := ⟨h.1, fun i a b => by
  show va_up S.2.1 o f i = _
  rw [va_up_n _ _ (by omega)]
  exact h.2 i a b⟩
theorem PF.sF {S0 S : amS} (h : PF S0 S) {k : Nat} (x : Int32) (hk : k = 27 ∨ k = 28 ∨ k = 29) : PF S0 (sF S 0 (upd (S.1 0) k x)) := ⟨fun j a b c => by
  show va_up S.1 0 (upd (S.1 0) k x) 0 j = _
  rw [va_up_s, upd_n _ _ (by omega)]
  exact h.1 j a b c, h.2⟩
theorem PF.tr {S0 S1 S2 : amS} (h : PF S0 S1) (h' : PF S1 S2) : PF S0 S2 := ⟨fun k a b c => (h'.1 k a b c).trans (h.1 k a b c), fun i a b => (h'.2 i a b).trans (h.2 i a b)⟩
theorem TxS.pf {S0 S : amS} {tx : List Nat} (h : TxS S0 tx) (hA : PF S0 S) : TxS S tx := by
  refine ⟨(hA.1 6 (by omega) (by omega) (by omega)).trans h.1, h.2.1, ?_⟩
  rw [hA.2 5 (by omega) (by omega)]
  exact h.2.2
def OdAt (S : amS) (n : Nat) (o : Od) : Prop := S.2.1 21 n = nI o.1 ∧ ∀ t, t < 4 → S.2.1 22 (4 * n + t) = i32 (o.2 t)
def Keep (n : Nat) (S0 S : amS) : Prop := ∀ k, k < n → S.2.1 21 k = S0.2.1 21 k ∧ ∀ t, t < 4 → S.2.1 22 (4 * k + t) = S0.2.1 22 (4 * k + t)
theorem Keep.eq {n : Nat} {S0 S S1 : amS} (h : Keep n S0 S) (e : S1.2 = S.2) : Keep n S0 S1 := by unfold Keep; rw [e]; exact h
theorem OdAt.eq {n : Nat} {S S1 : amS} {o : Od} (h : OdAt S n o) (e : S1.2 = S.2) : OdAt S1 n o := by unfold OdAt; rw [e]; exact h
theorem Keep.nums {n : Nat} {S0 S : amS} (h : Keep n S0 S) {t : Nat} (x : Int32) : Keep n S0 (sA S 22 (upd (S.2.1 22) (4 * n + t) x)) := by
  intro k hk
  refine ⟨(h k hk).1, fun t' ht => ?_⟩
  show upd (S.2.1 22) (4 * n + t) x (4 * k + t') = _
  rw [upd_n _ _ (by omega)]
  exact (h k hk).2 t' ht
theorem OdAt.num {n : Nat} {S : amS} {L : Nat} {f : Nat → Int} (h : OdAt S n (L, f)) {k : Nat} (x : Int) : OdAt (sA S 22 (upd (S.2.1 22) (4 * n + k) (i32 x))) n (L, fun i => if i = k then x else f i) := by
  refine ⟨h.1, fun t ht => ?_⟩
  show upd (S.2.1 22) (4 * n + k) (i32 x) (4 * n + t) = i32 (if t = k then x else f t)
  by_cases q : t = k
  · subst q; rw [upd_s, if_pos rfl]
  · rw [upd_n _ _ (by omega), if_neg q]; exact h.2 t ht
theorem k_nO_0 (S : amS) (L d : Nat) (hL : L ≤ 200) (hd : 2 ≤ d ∧ d ≤ 4) (hc : cnt L d = 0) : X shM mX11_numbersOf 0 [.int (nI L), .int (nI d)] [] S (fun r S' => r = some (.int (i32 (-1))) ∧ S' = S) := by
  have h := k_numbersOf S L d hL hd
  rwa [show nv L d = i32 (-1) by unfold nv; rw [if_pos hc]] at h
theorem k_nO_1 (S : amS) (L d : Nat) (hL : L ≤ 200) (hd : 2 ≤ d ∧ d ≤ 4) (hc : ¬ cnt L d = 0) : X shM mX11_numbersOf 0 [.int (nI L), .int (nI d)] [] S (fun r S' => r = some (.int (nI (cnt L d))) ∧ S' = S) := by
  have h := k_numbersOf S L d hL hd
  rwa [show nv L d = nI (cnt L d) by unfold nv; rw [if_neg hc]] at h
/-- while an order is read -/
def RO (S0 S : amS) (n L q : Nat) (f : Nat → Int) : Prop := PF S0 S ∧ S.1 0 27 = nI q ∧ S.1 0 28 = i32 (-1) ∧ S.1 0 29 = nI n ∧ OdAt S n (L, f) ∧ Keep n S0 S
set_option maxRecDepth 100000 in
set_option maxHeartbeats 4000000 in
theorem k_ro_f (S0 : amS) (tx : List Nat) (d n L m : Nat) (hd : 2 ≤ d ∧ d ≤ 4) (hn : n < 50) (hL : L ≤ 127) (hm : m ≤ 4) (hT : TxS S0 tx) (e : Nat) (Q : Option Value → amS → Prop) (hbad : ∀ v S', PF S0 S' → S'.1 0 28 = nI e → Q (some (.int v)) S') (S : amS) (x : Nat) (hF : PF S0 S) (h28 : S.1 0 28 = nI e) (he : e ≤ 100) (h29 : S.1 0 29 = nI n) : X shM mX11_readOrder 150 [.ref 0, .int (nI d), .int (nI L), .int (nI m), .int (nI x)] [] S Q := by
  refine x_aload_n dX11_readOrder_150 rfl ?_
  refine x_getIV dX11_readOrder_151 fl_X11_252 rfl (h28) ?_
  refine x_ic _ ic_m1 dX11_readOrder_154 ?_
  refine x_topI2 ?_
  refine x_icmp_neI 165 dX11_readOrder_155 rfl (by omega) (by omega) (fun c155 => ?_) (fun c155 => ?_)
  · refine x_bi _ bi_59 dX11_readOrder_165 ?_
    refine x_istore dX11_readOrder_167 rfl ?_
    refine x_aload_n dX11_readOrder_169 rfl ?_
    refine x_iload dX11_readOrder_170 rfl ?_
    refine x_bi _ bi_59 dX11_readOrder_172 ?_
    refine x_icmp_neN 181 dX11_readOrder_174 rfl (by omega) (by omega) (fun c174 => ?_) (fun c174 => ?_)
    · exact absurd rfl c174
    · refine x_ic _ ic_1 dX11_readOrder_177 ?_
      refine x_goto 182 dX11_readOrder_178 rfl ?_
      refine x_v1n (N := mX11_must) dX11_readOrder_182 ml_X11_255 nv_X11_must rfl rfl (k_must_t S true rfl) ?_
      refine x_aload_n dX11_readOrder_185 rfl ?_
      refine x_dup dX11_readOrder_186 rfl ?_
      refine x_getI dX11_readOrder_187 fl_X11_249 rfl ?_
      refine x_ic _ ic_1 dX11_readOrder_190 ?_
      refine x_iadd dX11_readOrder_191 ?_
      refine x_put dX11_readOrder_192 fp_X11_249 rfl rfl rfl ?_
      refine x_aload_n dX11_readOrder_195 rfl ?_
      refine x_dup dX11_readOrder_196 rfl ?_
      refine x_getIV dX11_readOrder_197 fl_X11_268 rfl (h29) ?_
      refine x_ic _ ic_1 dX11_readOrder_200 ?_
      refine x_iaddN dX11_readOrder_201 ?_
      refine x_put dX11_readOrder_202 fp_X11_268 rfl rfl rfl ?_
      refine x_iload_n dX11_readOrder_205 rfl ?_
      refine x_bi _ bi_100 dX11_readOrder_206 ?_
      refine x_icmp_neN 227 dX11_readOrder_208 rfl (by omega) (by omega) (fun c208 => ?_) (fun c208 => ?_)
      · refine x_iload_n dX11_readOrder_227 rfl ?_
        refine x_iretI dX11_readOrder_228 rfl ?_
        exact hbad _ _ ((hF.sF _ (Or.inl rfl)).sF _ (Or.inr (Or.inr rfl))) h28
      · refine x_aload_n dX11_readOrder_211 rfl ?_
        refine x_getR dX11_readOrder_212 fl_X11_79 rfl ?_
        refine x_ic _ ic_4 dX11_readOrder_215 ?_
        refine x_aload_n dX11_readOrder_216 rfl ?_
        refine x_getIV dX11_readOrder_217 fl_X11_268 rfl (rfl) ?_
        refine x_imulN dX11_readOrder_220 ?_
        refine x_ic _ ic_4 dX11_readOrder_221 ?_
        refine x_isubN dX11_readOrder_222 (by omega) ?_
        refine x_ialdN dX11_readOrder_223 rfl rfl (by omega) (rfl) ?_
        refine x_goto 228 dX11_readOrder_224 rfl ?_
        refine x_iretI dX11_readOrder_228 rfl ?_
        exact hbad _ _ ((hF.sF _ (Or.inl rfl)).sF _ (Or.inr (Or.inr rfl))) h28
  · omega
set_option maxRecDepth 100000 in
set_option maxHeartbeats 4000000 in
theorem k_ro_0 (S0 : amS) (tx : List Nat) (d n L m : Nat) (hd : 2 ≤ d ∧ d ≤ 4) (hn : n < 50) (hL : L ≤ 127) (hm : m ≤ 4) (hT : TxS S0 tx) (Q : Option Value → amS → Prop) (q : Nat) (hq : ∀ S, RO S0 S n L q (fun _ => 0) → X shM mX11_readOrder 85 [.ref 0, .int (nI d), .int (nI L), .int (nI m), .int (nI 4)] [] S Q) : ∀ (k t : Nat) (S : amS), t + k = 4 → PF S0 S → S.1 0 27 = nI q → S.1 0 28 = i32 (-1) → S.1 0 29 = nI n → S.2.1 21 n = nI L → (∀ t', t' < t → S.2.1 22 (4 * n + t') = i32 0) → Keep n S0 S → X shM mX11_readOrder 58 [.ref 0, .int (nI d), .int (nI L), .int (nI m), .int (nI t)] [] S Q := by
  intro k
  induction k with
  | zero =>
    intro t S h1 h2 h3 h4 h5 h6 h7 h8
    obtain rfl : t = 4 := by omega
    refine x_iload dX11_readOrder_58 rfl ?_
    refine x_ic _ ic_4 dX11_readOrder_60 ?_
    refine x_icmp_geN 85 dX11_readOrder_61 rfl (by omega) (by omega) (fun c61 => ?_) (fun c61 => ?_)
    · exact hq S ⟨h2, h3, h4, h5, ⟨h6, h7⟩, h8⟩
    · exact absurd c61 (by omega)
  | succ k ih =>
    intro t S h1 h2 h3 h4 h5 h6 h7 h8
    refine x_iload dX11_readOrder_58 rfl ?_
    refine x_ic _ ic_4 dX11_readOrder_60 ?_
    refine x_icmp_geN 85 dX11_readOrder_61 rfl (by omega) (by omega) (fun c61 => ?_) (fun c61 => ?_)
    · exact absurd c61 (by omega)
    · refine x_aload_n dX11_readOrder_64 rfl ?_
      refine x_getR dX11_readOrder_65 fl_X11_79 rfl ?_
      refine x_ic _ ic_4 dX11_readOrder_68 ?_
      refine x_aload_n dX11_readOrder_69 rfl ?_
      refine x_getIV dX11_readOrder_70 fl_X11_268 rfl (h5) ?_
      refine x_imulN dX11_readOrder_73 ?_
      refine x_iload dX11_readOrder_74 rfl ?_
      refine x_iaddN dX11_readOrder_76 ?_
      refine x_ic _ ic_0 dX11_readOrder_77 ?_
      refine x_iastN dX11_readOrder_78 rfl rfl (by omega) ?_
      refine x_iincN dX11_readOrder_79 rfl rfl ?_
      refine x_goto 58 dX11_readOrder_82 rfl ?_
      refine ih (t + 1) _ (by omega) (h2.sA _ (Or.inr rfl)) h3 h4 h5 h6 (fun t' ht => ?_) (h8.nums _)
      show upd (S.2.1 22) (4 * n + t) (nI 0) (4 * n + t') = _
      by_cases q : t' = t
      · subst q; rw [upd_s]; rfl
      · rw [upd_n _ _ (by omega)]; exact h7 t' (by omega)
set_option maxRecDepth 100000 in
set_option maxHeartbeats 4000000 in
theorem k_ro_1 (S0 : amS) (tx : List Nat) (d n L m : Nat) (hd : 2 ≤ d ∧ d ≤ 4) (hn : n < 50) (hL : L ≤ 127) (hm : m ≤ 4) (hT : TxS S0 tx) (Q : Option Value → amS → Prop) (p1 : Nat) (hp1 : p1 ≤ tx.length) (hok : ∀ S f q, rdNs tx L p1 m = .inr (f, q) → RO S0 S n L q f → X shM mX11_readOrder 150 [.ref 0, .int (nI d), .int (nI L), .int (nI m), .int (nI m)] [] S Q) (hbad : ∀ S e x, rdNs tx L p1 m = .inl e → e ≤ 100 → PF S0 S → S.1 0 28 = nI e → S.1 0 29 = nI n → X shM mX11_readOrder 150 [.ref 0, .int (nI d), .int (nI L), .int (nI m), .int (nI x)] [] S Q) : ∀ (j k : Nat) (S : amS) (f : Nat → Int) (q : Nat), k + j = m → RO S0 S n L q f → rdNs tx L p1 k = .inr (f, q) → X shM mX11_readOrder 88 [.ref 0, .int (nI d), .int (nI L), .int (nI m), .int (nI k)] [] S Q := by
  have hl := hT.2.1
  intro j
  induction j with
  | zero =>
    intro k S f q h1 h2 h3
    obtain rfl : k = m := by omega
    refine x_iload dX11_readOrder_88 rfl ?_
    refine x_iload_n dX11_readOrder_90 rfl ?_
    refine x_icmp_geN 150 dX11_readOrder_91 rfl (by omega) (by omega) (fun c91 => ?_) (fun c91 => ?_)
    · exact hok S f q h3 h2
    · exact absurd c91 (by omega)
  | succ j ih =>
    intro k S f q h1 h2 h3
    obtain ⟨r1, r2, r3, r4, r5, r6⟩ := id h2
    have hqn := rdNs_ok hp1 k f q h3
    have hTS := hT.pf r1
    have hbd : ∀ (S' : amS) (e : Nat), rdNum tx L q = .inl e → PF S0 S' → S'.1 0 28 = nI e → S'.1 0 29 = nI n → X shM mX11_readOrder 88 [.ref 0, .int (nI d), .int (nI L), .int (nI m), .int (nI (k + 1))] [] S' Q := by
      intro S' e i1 i2 i3 i4
      have hm2 : rdNs tx L p1 m = .inl e := rdNs_no (k := k + 1) (by rw [rdNs, h3]; simp only [i1]) m (by omega)
      have he : e ≤ tx.length := rdNum_no hqn.2.1 i1
      have hbb := fun x => hbad S' e x hm2 (by omega) i2 i3 i4
      refine x_iload dX11_readOrder_88 rfl ?_
      refine x_iload_n dX11_readOrder_90 rfl ?_
      refine x_icmp_geN 150 dX11_readOrder_91 rfl (by omega) (by omega) (fun c91 => ?_) (fun c91 => ?_)
      · exact hbb _
      · refine x_aload_n dX11_readOrder_94 rfl ?_
        refine x_getIV dX11_readOrder_95 fl_X11_252 rfl (i3) ?_
        refine x_ic _ ic_m1 dX11_readOrder_98 ?_
        refine x_topI2 ?_
        refine x_icmp_neI 150 dX11_readOrder_99 rfl (by omega) (by omega) (fun c99 => ?_) (fun c99 => ?_)
        · exact hbb _
        · omega
    cases en : rdNum tx L q with
    | inr xq =>
      obtain ⟨x, q'⟩ := xq
      refine x_iload dX11_readOrder_88 rfl ?_
      refine x_iload_n dX11_readOrder_90 rfl ?_
      refine x_icmp_geN 150 dX11_readOrder_91 rfl (by omega) (by omega) (fun c91 => ?_) (fun c91 => ?_)
      · exact absurd c91 (by omega)
      · refine x_aload_n dX11_readOrder_94 rfl ?_
        refine x_getIV dX11_readOrder_95 fl_X11_252 rfl (r3) ?_
        refine x_ic _ ic_m1 dX11_readOrder_98 ?_
        refine x_icmp_neI 150 dX11_readOrder_99 rfl (by omega) (by omega) (fun c99 => ?_) (fun c99 => ?_)
        · exact absurd rfl c99
        · refine x_aload_n dX11_readOrder_102 rfl ?_
          refine x_getR dX11_readOrder_103 fl_X11_79 rfl ?_
          refine x_ic _ ic_4 dX11_readOrder_106 ?_
          refine x_aload_n dX11_readOrder_107 rfl ?_
          refine x_getIV dX11_readOrder_108 fl_X11_268 rfl (r4) ?_
          refine x_imulN dX11_readOrder_111 ?_
          refine x_iload dX11_readOrder_112 rfl ?_
          refine x_iaddN dX11_readOrder_114 ?_
          refine x_iload_n dX11_readOrder_115 rfl ?_
          refine x_bi _ bi_112 dX11_readOrder_116 ?_
          refine x_icmp_neN 128 dX11_readOrder_118 rfl (by omega) (by omega) (fun c118 => ?_) (fun c118 => ?_)
          · refine x_aload_n dX11_readOrder_128 rfl ?_
            refine x_iload_n dX11_readOrder_129 rfl ?_
            refine x_bi _ bi_100 dX11_readOrder_130 ?_
            refine x_icmp_neN 139 dX11_readOrder_132 rfl (by omega) (by omega) (fun c132 => ?_) (fun c132 => ?_)
            · have hb : false = decide (L = 100) := (decide_eq_false c132).symm
              refine x_ic _ ic_0 dX11_readOrder_139 ?_
              refine x_v1 (N := mX11_plain) dX11_readOrder_140 ml_X11_274 nv_X11_plain rfl rfl (k_plain_ok S tx q hqn.2.1 hTS r2 r3 L c118 false hb x q' en) ?_
              rintro _ S1 ⟨rfl, hA⟩
              refine x_iastN dX11_readOrder_143 rfl rfl (by omega) ?_
              refine x_iincN dX11_readOrder_144 rfl rfl ?_
              refine x_goto 88 dX11_readOrder_147 rfl ?_
              have h3' : rdNs tx L p1 (k + 1) = .inr (fun i => if i = k then x else f i, q') := by rw [rdNs, h3]; simp only [en]
              refine ih (k + 1) _ (fun i => if i = k then x else f i) q' (by omega) ⟨(r1.at hA).sA _ (Or.inr rfl), hA.2.2, (hA.1 28 (by omega)).trans r3, (hA.1 29 (by omega)).trans r4, (r5.eq hA.2.1).num x, (r6.eq hA.2.1).nums _⟩ h3'
            · have hb : true = decide (L = 100) := (decide_eq_true c132).symm
              refine x_ic _ ic_1 dX11_readOrder_135 ?_
              refine x_goto 140 dX11_readOrder_136 rfl ?_
              refine x_v1 (N := mX11_plain) dX11_readOrder_140 ml_X11_274 nv_X11_plain rfl rfl (k_plain_ok S tx q hqn.2.1 hTS r2 r3 L c118 true hb x q' en) ?_
              rintro _ S1 ⟨rfl, hA⟩
              refine x_iastN dX11_readOrder_143 rfl rfl (by omega) ?_
              refine x_iincN dX11_readOrder_144 rfl rfl ?_
              refine x_goto 88 dX11_readOrder_147 rfl ?_
              have h3' : rdNs tx L p1 (k + 1) = .inr (fun i => if i = k then x else f i, q') := by rw [rdNs, h3]; simp only [en]
              refine ih (k + 1) _ (fun i => if i = k then x else f i) q' (by omega) ⟨(r1.at hA).sA _ (Or.inr rfl), hA.2.2, (hA.1 28 (by omega)).trans r3, (hA.1 29 (by omega)).trans r4, (r5.eq hA.2.1).num x, (r6.eq hA.2.1).nums _⟩ h3'
          · rw [c118] at en
            refine x_aload_n dX11_readOrder_121 rfl ?_
            refine x_v0 (N := mX11_signed) dX11_readOrder_122 ml_X11_271 nv_X11_signed rfl rfl (k_signed_ok S tx q hqn.2.1 hTS r2 r3 x q' en) ?_
            rintro _ S1 ⟨rfl, hA⟩
            refine x_goto 143 dX11_readOrder_125 rfl ?_
            refine x_iastN dX11_readOrder_143 rfl rfl (by omega) ?_
            refine x_iincN dX11_readOrder_144 rfl rfl ?_
            refine x_goto 88 dX11_readOrder_147 rfl ?_
            rw [← c118] at en
            have h3' : rdNs tx L p1 (k + 1) = .inr (fun i => if i = k then x else f i, q') := by rw [rdNs, h3]; simp only [en]
            refine ih (k + 1) _ (fun i => if i = k then x else f i) q' (by omega) ⟨(r1.at hA).sA _ (Or.inr rfl), hA.2.2, (hA.1 28 (by omega)).trans r3, (hA.1 29 (by omega)).trans r4, (r5.eq hA.2.1).num x, (r6.eq hA.2.1).nums _⟩ h3'
    | inl e =>
      refine x_iload dX11_readOrder_88 rfl ?_
      refine x_iload_n dX11_readOrder_90 rfl ?_
      refine x_icmp_geN 150 dX11_readOrder_91 rfl (by omega) (by omega) (fun c91 => ?_) (fun c91 => ?_)
      · exact absurd c91 (by omega)
      · refine x_aload_n dX11_readOrder_94 rfl ?_
        refine x_getIV dX11_readOrder_95 fl_X11_252 rfl (r3) ?_
        refine x_ic _ ic_m1 dX11_readOrder_98 ?_
        refine x_icmp_neI 150 dX11_readOrder_99 rfl (by omega) (by omega) (fun c99 => ?_) (fun c99 => ?_)
        · exact absurd rfl c99
        · refine x_aload_n dX11_readOrder_102 rfl ?_
          refine x_getR dX11_readOrder_103 fl_X11_79 rfl ?_
          refine x_ic _ ic_4 dX11_readOrder_106 ?_
          refine x_aload_n dX11_readOrder_107 rfl ?_
          refine x_getIV dX11_readOrder_108 fl_X11_268 rfl (r4) ?_
          refine x_imulN dX11_readOrder_111 ?_
          refine x_iload dX11_readOrder_112 rfl ?_
          refine x_iaddN dX11_readOrder_114 ?_
          refine x_iload_n dX11_readOrder_115 rfl ?_
          refine x_bi _ bi_112 dX11_readOrder_116 ?_
          refine x_icmp_neN 128 dX11_readOrder_118 rfl (by omega) (by omega) (fun c118 => ?_) (fun c118 => ?_)
          · refine x_aload_n dX11_readOrder_128 rfl ?_
            refine x_iload_n dX11_readOrder_129 rfl ?_
            refine x_bi _ bi_100 dX11_readOrder_130 ?_
            refine x_icmp_neN 139 dX11_readOrder_132 rfl (by omega) (by omega) (fun c132 => ?_) (fun c132 => ?_)
            · have hb : false = decide (L = 100) := (decide_eq_false c132).symm
              refine x_ic _ ic_0 dX11_readOrder_139 ?_
              refine x_v1 (N := mX11_plain) dX11_readOrder_140 ml_X11_274 nv_X11_plain rfl rfl (k_plain_bad S tx q hqn.2.1 hTS r2 r3 L c118 false hb e en) ?_
              rintro _ S1 ⟨⟨v, rfl⟩, hA⟩
              refine x_iastN dX11_readOrder_143 rfl rfl (by omega) ?_
              refine x_iincN dX11_readOrder_144 rfl rfl ?_
              refine x_goto 88 dX11_readOrder_147 rfl ?_
              exact hbd _ e en ((r1.fl hA).sA _ (Or.inr rfl)) hA.2.2 ((hA.1 29 (by omega) (by omega)).trans r4)
            · have hb : true = decide (L = 100) := (decide_eq_true c132).symm
              refine x_ic _ ic_1 dX11_readOrder_135 ?_
              refine x_goto 140 dX11_readOrder_136 rfl ?_
              refine x_v1 (N := mX11_plain) dX11_readOrder_140 ml_X11_274 nv_X11_plain rfl rfl (k_plain_bad S tx q hqn.2.1 hTS r2 r3 L c118 true hb e en) ?_
              rintro _ S1 ⟨⟨v, rfl⟩, hA⟩
              refine x_iastN dX11_readOrder_143 rfl rfl (by omega) ?_
              refine x_iincN dX11_readOrder_144 rfl rfl ?_
              refine x_goto 88 dX11_readOrder_147 rfl ?_
              exact hbd _ e en ((r1.fl hA).sA _ (Or.inr rfl)) hA.2.2 ((hA.1 29 (by omega) (by omega)).trans r4)
          · rw [c118] at en
            refine x_aload_n dX11_readOrder_121 rfl ?_
            refine x_v0 (N := mX11_signed) dX11_readOrder_122 ml_X11_271 nv_X11_signed rfl rfl (k_signed_bad S tx q hqn.2.1 hTS r2 r3 e en) ?_
            rintro _ S1 ⟨⟨v, rfl⟩, hA⟩
            refine x_goto 143 dX11_readOrder_125 rfl ?_
            refine x_iastN dX11_readOrder_143 rfl rfl (by omega) ?_
            refine x_iincN dX11_readOrder_144 rfl rfl ?_
            refine x_goto 88 dX11_readOrder_147 rfl ?_
            rw [← c118] at en
            exact hbd _ e en ((r1.fl hA).sA _ (Or.inr rfl)) hA.2.2 ((hA.1 29 (by omega) (by omega)).trans r4)
set_option maxRecDepth 100000 in
set_option maxHeartbeats 4000000 in
theorem k_ro_2 (S0 : amS) (tx : List Nat) (d n L m : Nat) (hd : 2 ≤ d ∧ d ≤ 4) (hn : n < 50) (hL : L ≤ 127) (hm : m ≤ 4) (hT : TxS S0 tx) (Q : Option Value → amS → Prop) (f : Nat → Int) (q : Nat) (hq : q ≤ tx.length) (h0 : L = 100 → 2 ≤ f 0 ∧ f 0 ≤ 4) (hok : ∀ S', ch tx (sk tx q) = 59 → PF S0 S' → S'.1 0 27 = nI (sk tx q + 1) → S'.1 0 28 = i32 (-1) → S'.1 0 29 = nI (n + 1) → OdAt S' n (L, f) → Keep n S0 S' → Q (some (.int (nI (nxD d (L, f))))) S') (hbad : ∀ v S', ch tx (sk tx q) ≠ 59 → PF S0 S' → S'.1 0 28 = nI (sk tx q) → Q (some (.int v)) S') (S : amS) (x : Nat) (hR : RO S0 S n L q f) : X shM mX11_readOrder 150 [.ref 0, .int (nI d), .int (nI L), .int (nI m), .int (nI x)] [] S Q := by
  have hl := hT.2.1
  obtain ⟨r1, r2, r3, r4, r5, r6⟩ := id hR
  have hTS := hT.pf r1
  refine x_aload_n dX11_readOrder_150 rfl ?_
  refine x_getIV dX11_readOrder_151 fl_X11_252 rfl (r3) ?_
  refine x_ic _ ic_m1 dX11_readOrder_154 ?_
  refine x_icmp_neI 165 dX11_readOrder_155 rfl (by omega) (by omega) (fun c155 => ?_) (fun c155 => ?_)
  · exact absurd rfl c155
  · refine x_aload_n dX11_readOrder_158 rfl ?_
    refine x_v0 (N := mX11_here) dX11_readOrder_159 ml_X11_259 nv_X11_here rfl rfl (k_here0 S tx q hq hTS r2) ?_
    rintro _ S1 ⟨rfl, hA⟩
    refine x_goto 167 dX11_readOrder_162 rfl ?_
    refine x_istore dX11_readOrder_167 rfl ?_
    refine x_aload_n dX11_readOrder_169 rfl ?_
    refine x_iload dX11_readOrder_170 rfl ?_
    refine x_bi _ bi_59 dX11_readOrder_172 ?_
    refine x_icmp_ne 181 dX11_readOrder_174 rfl (fun c174 => ?_) (fun c174 => ?_)
    · rw [hv_eq hTS (by omega)] at c174
      refine x_ic _ ic_0 dX11_readOrder_181 ?_
      refine x_v1n (N := mX11_must) dX11_readOrder_182 ml_X11_255 nv_X11_must rfl rfl (k_must_f S1 false rfl ((hA.1 28 (by omega)).trans r3)) ?_
      refine x_aload_n dX11_readOrder_185 rfl ?_
      refine x_dup dX11_readOrder_186 rfl ?_
      refine x_getIV dX11_readOrder_187 fl_X11_249 rfl (hA.2.2) ?_
      refine x_ic _ ic_1 dX11_readOrder_190 ?_
      refine x_iaddN dX11_readOrder_191 ?_
      refine x_put dX11_readOrder_192 fp_X11_249 rfl rfl rfl ?_
      refine x_aload_n dX11_readOrder_195 rfl ?_
      refine x_dup dX11_readOrder_196 rfl ?_
      refine x_getIV dX11_readOrder_197 fl_X11_268 rfl ((hA.1 29 (by omega)).trans r4) ?_
      refine x_ic _ ic_1 dX11_readOrder_200 ?_
      refine x_iaddN dX11_readOrder_201 ?_
      refine x_put dX11_readOrder_202 fp_X11_268 rfl rfl rfl ?_
      refine x_iload_n dX11_readOrder_205 rfl ?_
      refine x_bi _ bi_100 dX11_readOrder_206 ?_
      refine x_icmp_neN 227 dX11_readOrder_208 rfl (by omega) (by omega) (fun c208 => ?_) (fun c208 => ?_)
      · refine x_iload_n dX11_readOrder_227 rfl ?_
        refine x_iretI dX11_readOrder_228 rfl ?_
        exact hbad _ _ c174 ((((r1.at hA).sF _ (Or.inr (Or.inl rfl))).sF _ (Or.inl rfl)).sF _ (Or.inr (Or.inr rfl))) hA.2.2
      · refine x_aload_n dX11_readOrder_211 rfl ?_
        refine x_getR dX11_readOrder_212 fl_X11_79 rfl ?_
        refine x_ic _ ic_4 dX11_readOrder_215 ?_
        refine x_aload_n dX11_readOrder_216 rfl ?_
        refine x_getIV dX11_readOrder_217 fl_X11_268 rfl (rfl) ?_
        refine x_imulN dX11_readOrder_220 ?_
        refine x_ic _ ic_4 dX11_readOrder_221 ?_
        refine x_isubN dX11_readOrder_222 (by omega) ?_
        refine x_ialdN dX11_readOrder_223 rfl rfl (by omega) (rfl) ?_
        refine x_goto 228 dX11_readOrder_224 rfl ?_
        refine x_iretI dX11_readOrder_228 rfl ?_
        exact hbad _ _ c174 ((((r1.at hA).sF _ (Or.inr (Or.inl rfl))).sF _ (Or.inl rfl)).sF _ (Or.inr (Or.inr rfl))) hA.2.2
    · rw [hv_eq hTS (by omega)] at c174
      refine x_ic _ ic_1 dX11_readOrder_177 ?_
      refine x_goto 182 dX11_readOrder_178 rfl ?_
      refine x_v1n (N := mX11_must) dX11_readOrder_182 ml_X11_255 nv_X11_must rfl rfl (k_must_t S1 true rfl) ?_
      refine x_aload_n dX11_readOrder_185 rfl ?_
      refine x_dup dX11_readOrder_186 rfl ?_
      refine x_getIV dX11_readOrder_187 fl_X11_249 rfl (hA.2.2) ?_
      refine x_ic _ ic_1 dX11_readOrder_190 ?_
      refine x_iaddN dX11_readOrder_191 ?_
      refine x_put dX11_readOrder_192 fp_X11_249 rfl rfl rfl ?_
      refine x_aload_n dX11_readOrder_195 rfl ?_
      refine x_dup dX11_readOrder_196 rfl ?_
      refine x_getIV dX11_readOrder_197 fl_X11_268 rfl ((hA.1 29 (by omega)).trans r4) ?_
      refine x_ic _ ic_1 dX11_readOrder_200 ?_
      refine x_iaddN dX11_readOrder_201 ?_
      refine x_put dX11_readOrder_202 fp_X11_268 rfl rfl rfl ?_
      refine x_iload_n dX11_readOrder_205 rfl ?_
      refine x_bi _ bi_100 dX11_readOrder_206 ?_
      refine x_icmp_neN 227 dX11_readOrder_208 rfl (by omega) (by omega) (fun c208 => ?_) (fun c208 => ?_)
      · have hx : nxD d (L, f) = d := if_neg c208
        refine x_iload_n dX11_readOrder_227 rfl ?_
        refine x_iretI dX11_readOrder_228 rfl ?_
        rw [← hx]
        exact hok _ c174 (((r1.at hA).sF _ (Or.inl rfl)).sF _ (Or.inr (Or.inr rfl))) rfl ((hA.1 28 (by omega)).trans r3) rfl (r5.eq hA.2.1) (r6.eq hA.2.1)
      · have hf0 := h0 c208
        refine x_aload_n dX11_readOrder_211 rfl ?_
        refine x_getR dX11_readOrder_212 fl_X11_79 rfl ?_
        refine x_ic _ ic_4 dX11_readOrder_215 ?_
        refine x_aload_n dX11_readOrder_216 rfl ?_
        refine x_getIV dX11_readOrder_217 fl_X11_268 rfl (rfl) ?_
        refine x_imulN dX11_readOrder_220 ?_
        refine x_ic _ ic_4 dX11_readOrder_221 ?_
        refine x_isubN dX11_readOrder_222 (by omega) ?_
        refine x_ialdN dX11_readOrder_223 rfl rfl (by omega) (show S1.2.1 22 (4 * (n + 1) - 4) = i32 (f 0) from by rw [hA.2.1, show 4 * (n + 1) - 4 = 4 * n + 0 by omega]; exact r5.2 0 (by omega)) ?_
        refine x_goto 228 dX11_readOrder_224 rfl ?_
        refine x_iretI dX11_readOrder_228 rfl ?_
        rw [show i32 (f 0) = nI (nxD d (L, f)) by rw [show nxD d (L, f) = (f 0).toNat from if_pos c208, nI_i32, Int.toNat_of_nonneg (by omega)]]
        exact hok _ c174 (((r1.at hA).sF _ (Or.inl rfl)).sF _ (Or.inr (Or.inr rfl))) rfl ((hA.1 28 (by omega)).trans r3) rfl (r5.eq hA.2.1) (r6.eq hA.2.1)
set_option maxRecDepth 100000 in
set_option maxHeartbeats 4000000 in
theorem k_readOrder (S : amS) (tx : List Nat) (d n p : Nat) (hd : 2 ≤ d ∧ d ≤ 4) (hn : n < 50) (hp : p ≤ tx.length) (hT : TxS S tx) (h27 : S.1 0 27 = nI p) (h28 : S.1 0 28 = i32 (-1)) (h29 : S.1 0 29 = nI n) (hlt : sk tx p < tx.length) (Q : Option Value → amS → Prop) (hok : ∀ o q S', rdOrd tx d p = .inr (o, q) → PF S S' → S'.1 0 27 = nI q → S'.1 0 28 = i32 (-1) → S'.1 0 29 = nI (n + 1) → OdAt S' n o → Keep n S S' → Q (some (.int (nI (nxD d o)))) S') (hbad : ∀ e v S', rdOrd tx d p = .inl e → PF S S' → S'.1 0 28 = nI e → Q (some (.int v)) S') : X shM mX11_readOrder 0 [.ref 0, .int (nI d), .null, .null, .null] [] S Q := by
  have hl := hT.2.1
  have hc127 := (hT.c hlt).1
  have hcl := cnt_le (L := ch tx (sk tx p)) hd.2
  by_cases hc : cnt (ch tx (sk tx p)) d = 0
  · refine x_aload_n dX11_readOrder_0 rfl ?_
    refine x_v0 (N := mX11_here) dX11_readOrder_1 ml_X11_259 nv_X11_here rfl rfl (k_here0 S tx p hp hT h27) ?_
    rintro _ S1 ⟨rfl, hA⟩
    rw [hv_in hlt]
    have hT1 := hT.at hA
    refine x_istore_n dX11_readOrder_4 rfl ?_
    refine x_iload_n dX11_readOrder_5 rfl ?_
    refine x_iload_n dX11_readOrder_6 rfl ?_
    refine x_s2d (N := mX11_numbersOf) dX11_readOrder_7 ml_X11_265 ns_X11_numbersOf rfl (k_nO_0 S1 (ch tx (sk tx p)) d (by omega) hd hc) ?_
    refine x_istore_n dX11_readOrder_10 rfl ?_
    refine x_aload_n dX11_readOrder_11 rfl ?_
    refine x_iload_n dX11_readOrder_12 rfl ?_
    refine x_ic _ ic_m1 dX11_readOrder_13 ?_
    refine x_icmp_eqI 21 dX11_readOrder_14 rfl (by omega) (by omega) (fun c14 => ?_) (fun c14 => ?_)
    · refine x_ic _ ic_0 dX11_readOrder_21 ?_
      refine x_v1n (N := mX11_must) dX11_readOrder_22 ml_X11_255 nv_X11_must rfl rfl (k_must_f S1 false rfl ((hA.1 28 (by omega)).trans h28)) ?_
      refine x_aload_n dX11_readOrder_25 rfl ?_
      refine x_getIV dX11_readOrder_26 fl_X11_252 rfl (hA.2.2) ?_
      refine x_ic _ ic_m1 dX11_readOrder_29 ?_
      refine x_topI2 ?_
      refine x_icmp_eqI 35 dX11_readOrder_30 rfl (by omega) (by omega) (fun c30 => ?_) (fun c30 => ?_)
      · omega
      · refine x_iload_n dX11_readOrder_33 rfl ?_
        refine x_iretI dX11_readOrder_34 rfl ?_
        exact hbad (sk tx p) _ _ (by unfold rdOrd; rw [if_pos hc]) (((PF.rf S).at hA).sF _ (Or.inr (Or.inl rfl))) hA.2.2
    · exact absurd rfl c14
  · refine x_aload_n dX11_readOrder_0 rfl ?_
    refine x_v0 (N := mX11_here) dX11_readOrder_1 ml_X11_259 nv_X11_here rfl rfl (k_here0 S tx p hp hT h27) ?_
    rintro _ S1 ⟨rfl, hA⟩
    rw [hv_in hlt]
    have hT1 := hT.at hA
    refine x_istore_n dX11_readOrder_4 rfl ?_
    refine x_iload_n dX11_readOrder_5 rfl ?_
    refine x_iload_n dX11_readOrder_6 rfl ?_
    refine x_s2d (N := mX11_numbersOf) dX11_readOrder_7 ml_X11_265 ns_X11_numbersOf rfl (k_nO_1 S1 (ch tx (sk tx p)) d (by omega) hd hc) ?_
    refine x_istore_n dX11_readOrder_10 rfl ?_
    refine x_aload_n dX11_readOrder_11 rfl ?_
    refine x_iload_n dX11_readOrder_12 rfl ?_
    refine x_ic _ ic_m1 dX11_readOrder_13 ?_
    refine x_topI2 ?_
    refine x_icmp_eqI 21 dX11_readOrder_14 rfl (by omega) (by omega) (fun c14 => ?_) (fun c14 => ?_)
    · omega
    · refine x_ic _ ic_1 dX11_readOrder_17 ?_
      refine x_goto 22 dX11_readOrder_18 rfl ?_
      refine x_v1n (N := mX11_must) dX11_readOrder_22 ml_X11_255 nv_X11_must rfl rfl (k_must_t S1 true rfl) ?_
      refine x_aload_n dX11_readOrder_25 rfl ?_
      refine x_getIV dX11_readOrder_26 fl_X11_252 rfl ((hA.1 28 (by omega)).trans h28) ?_
      refine x_ic _ ic_m1 dX11_readOrder_29 ?_
      refine x_icmp_eqI 35 dX11_readOrder_30 rfl (by omega) (by omega) (fun c30 => ?_) (fun c30 => ?_)
      · refine x_aload_n dX11_readOrder_35 rfl ?_
        refine x_dup dX11_readOrder_36 rfl ?_
        refine x_getIV dX11_readOrder_37 fl_X11_249 rfl (hA.2.2) ?_
        refine x_ic _ ic_1 dX11_readOrder_40 ?_
        refine x_iaddN dX11_readOrder_41 ?_
        refine x_put dX11_readOrder_42 fp_X11_249 rfl rfl rfl ?_
        refine x_aload_n dX11_readOrder_45 rfl ?_
        refine x_getR dX11_readOrder_46 fl_X11_76 rfl ?_
        refine x_aload_n dX11_readOrder_49 rfl ?_
        refine x_getIV dX11_readOrder_50 fl_X11_268 rfl ((hA.1 29 (by omega)).trans h29) ?_
        refine x_iload_n dX11_readOrder_53 rfl ?_
        refine x_iastN dX11_readOrder_54 rfl rfl (by omega) ?_
        refine x_ic _ ic_0 dX11_readOrder_55 ?_
        refine x_istore dX11_readOrder_56 rfl ?_
        have hRO := k_ro_0 S tx d n (ch tx (sk tx p)) (cnt (ch tx (sk tx p)) d) hd hn hc127 (cnt_le hd.2) hT Q (sk tx p + 1)
        refine hRO (fun S2 hR => ?_) 4 0 _ (by omega) ((((PF.rf S).at hA).sF _ (Or.inl rfl)).sA _ (Or.inl rfl)) rfl ((hA.1 28 (by omega)).trans h28) ((hA.1 29 (by omega)).trans h29) (by rw [sA_at, upd_s]) (fun t' ht => by omega) (fun k hk => ⟨?_, fun t ht => ?_⟩)
        · refine x_ic _ ic_0 dX11_readOrder_85 ?_
          refine x_istore dX11_readOrder_86 rfl ?_
          refine k_ro_1 S tx d n (ch tx (sk tx p)) (cnt (ch tx (sk tx p)) d) hd hn hc127 (cnt_le hd.2) hT Q (sk tx p + 1) (by omega) (fun S3 f q e1 hR3 => ?_) (fun S3 e x e1 he hF h28' h29' => ?_) (cnt (ch tx (sk tx p)) d) 0 S2 (fun _ => 0) (sk tx p + 1) (by omega) hR rfl
          · have hno := rdNs_ok (show sk tx p + 1 ≤ tx.length by omega) _ f q e1
            refine k_ro_2 S tx d n (ch tx (sk tx p)) (cnt (ch tx (sk tx p)) d) hd hn hc127 (cnt_le hd.2) hT Q f q hno.2.1 (fun z => (hno.2.2 0).2.2.1 (by omega) z) (fun S' z i1 i2 i3 i4 i5 i6 => ?_) (fun v S' z i1 i2 => ?_) S3 _ hR3
            · exact hok (ch tx (sk tx p), f) (sk tx q + 1) S' (by unfold rdOrd; rw [if_neg hc, e1]; simp only [if_pos z]) i1 i2 i3 i4 i5 i6
            · exact hbad (sk tx q) v S' (by unfold rdOrd; rw [if_neg hc, e1]; simp only [if_neg z]) i1 i2
          · exact k_ro_f S tx d n (ch tx (sk tx p)) (cnt (ch tx (sk tx p)) d) hd hn hc127 (cnt_le hd.2) hT e Q (fun v S' i1 i2 => hbad e v S' (by unfold rdOrd; rw [if_neg hc, e1]) i1 i2) S3 x hF h28' he h29'
        · show upd (S1.2.1 21) n _ k = _; rw [upd_n _ _ (by omega), hA.2.1]
        · show S1.2.1 22 _ = _; rw [hA.2.1]
      · exact absurd rfl c30
