/-! THE CLASS: the text is read -/
def cur (S : amS) (q : Nat) : amS := sF S 47 (upd (S.1 47) 5 (nI q))
theorem sF_sF (S : amS) (o : Nat) (f g : Nat → Int32) : sF (sF S o f) o g = sF S o g := by
  show (va_up (va_up S.1 o f) o g, S.2) = (va_up S.1 o g, S.2)
  rw [bx_uu]
theorem cur_cur (S : amS) (p q : Nat) : cur (cur S p) q = cur S q := by
  unfold cur
  rw [sF_sF, sF_at, upd_upd]
theorem cur_self {S : amS} {p : Nat} (h : S.1 47 5 = nI p) : S = cur S p := by
  have e : upd (S.1 47) 5 (nI p) = S.1 47 := by
    funext j
    by_cases q : j = 5
    · rw [q, upd_s, h]
    · rw [upd_n _ _ q]
  unfold cur
  rw [e]
  have : va_up S.1 47 (S.1 47) = S.1 := by
    funext j
    by_cases h : j = 47
    · subst h; exact va_up_s _ _ _
    · exact va_up_n _ _ h
  show S = (va_up S.1 47 (S.1 47), S.2)
  rw [this]
theorem cur_at (S : amS) (q : Nat) : (cur S q).1 47 5 = nI q := by unfold cur; rw [sF_at, upd_s]
theorem cur_n (S : amS) (q : Nat) {k : Nat} (h : k ≠ 5) : (cur S q).1 47 k = S.1 47 k := by unfold cur; rw [sF_at, upd_n _ _ h]
theorem cur_sA (S : amS) (q : Nat) (g : Nat → Int32) (q' : Nat) : cur (sA S 50 g) q' = cur (sA (cur S q) 50 g) q' := (cur_cur (sA S 50 g) q q').symm
theorem cur_txt {S : amS} {tx : List Nat} (h : txtX S tx) (q : Nat) : txtX (cur S q) tx := by
  obtain ⟨h1, h2, h3⟩ := h
  exact ⟨by rw [cur_n S q (by decide)]; exact h1, h2, h3⟩
theorem tx_at {S : amS} {tx : List Nat} (h : txtX S tx) {p : Nat} (hp : p < tx.length) : ch tx p ≤ 127 ∧ S.2.1 48 p = nI (ch tx p) := h.2.2 p (ch tx p) (ch_get hp)
set_option maxRecDepth 100000 in
set_option maxHeartbeats 4000000 in
theorem kx_btw (S : amS) (tx : List Nat) (ht : txtX S tx) (p : Nat) (hp : S.1 47 5 = nI p) (hpl : p ≤ tx.length) (lo hi : Nat) (hl : lo < 128) (hh : hi < 128) : X shX mX9_isBetween 0 [.ref 47, .int (nI lo), .int (nI hi)] [] S (fun r S' => r = some (.int (zB (decide (lo ≤ ch tx p ∧ ch tx p ≤ hi)))) ∧ S' = S) := by
  have h100 : tx.length ≤ 100 := ht.2.1
  refine x_aload_n dX9_isBetween_0 rfl ?_
  refine x_getIV dX9_isBetween_1 fl_X9_29 rfl (hp) ?_
  refine x_aload_n dX9_isBetween_4 rfl ?_
  refine x_getIV dX9_isBetween_5 fl_X9_22 rfl (ht.1) ?_
  refine x_icmp_geN 41 dX9_isBetween_8 rfl (by omega) (by omega) (fun c8 => ?_) (fun c8 => ?_)
  · refine x_ic _ ic_0 dX9_isBetween_41 ?_
    refine x_zret0 dX9_isBetween_42 rfl ?_
    have he := ch_end (tx := tx) (p := p) c8
    exact ⟨by rw [zB_f]; exact decide_eq_false (by omega), rfl⟩
  · obtain ⟨hc1, hc2⟩ := tx_at ht c8
    refine x_aload_n dX9_isBetween_11 rfl ?_
    refine x_getR dX9_isBetween_12 fl_X9_9 rfl ?_
    refine x_aload_n dX9_isBetween_15 rfl ?_
    refine x_getIV dX9_isBetween_16 fl_X9_29 rfl (hp) ?_
    refine x_baldN dX9_isBetween_19 rfl rfl (by omega) (hc2) ?_
    refine x_iload_n dX9_isBetween_20 rfl ?_
    refine x_icmp_ltN 41 dX9_isBetween_21 rfl (by omega) (by omega) (fun c21 => ?_) (fun c21 => ?_)
    · refine x_ic _ ic_0 dX9_isBetween_41 ?_
      refine x_zret0 dX9_isBetween_42 rfl ?_
      exact ⟨by rw [zB_f]; exact decide_eq_false (by omega), rfl⟩
    · refine x_aload_n dX9_isBetween_24 rfl ?_
      refine x_getR dX9_isBetween_25 fl_X9_9 rfl ?_
      refine x_aload_n dX9_isBetween_28 rfl ?_
      refine x_getIV dX9_isBetween_29 fl_X9_29 rfl (hp) ?_
      refine x_baldN dX9_isBetween_32 rfl rfl (by omega) (hc2) ?_
      refine x_iload_n dX9_isBetween_33 rfl ?_
      refine x_icmp_gtN 41 dX9_isBetween_34 rfl (by omega) (by omega) (fun c34 => ?_) (fun c34 => ?_)
      · refine x_ic _ ic_0 dX9_isBetween_41 ?_
        refine x_zret0 dX9_isBetween_42 rfl ?_
        exact ⟨by rw [zB_f]; exact decide_eq_false (by omega), rfl⟩
      · refine x_ic _ ic_1 dX9_isBetween_37 ?_
        refine x_goto 42 dX9_isBetween_38 rfl ?_
        refine x_zret1 dX9_isBetween_42 rfl ?_
        exact ⟨by rw [zB_t]; exact decide_eq_true ⟨by omega, by omega⟩, rfl⟩
set_option maxRecDepth 100000 in
set_option maxHeartbeats 4000000 in
theorem kx_skip_l (S : amS) (tx : List Nat) (ht : txtX S tx) (p : Nat) : ∀ (e k q : Nat), k + e = 100 → q ≤ tx.length → k ≤ q → sk tx q = sk tx p → X shX mX9_skipSpaces 2 [.ref 47, .int (nI k)] [] (cur S q) (fun r S' => r = none ∧ S' = cur S (sk tx p)) := by
  have h100 : tx.length ≤ 100 := ht.2.1
  intro e
  induction e with
  | zero =>
    intro k q h1 h2 h3 h4
    obtain rfl : k = 100 := by omega
    have hq : sk tx q = q := sk_ns (by rw [ch_end (by omega)]; decide)
    refine x_iload_n dX9_skipSpaces_2 rfl ?_
    refine x_bi _ bi_100 dX9_skipSpaces_3 ?_
    refine x_icmp_geN 35 dX9_skipSpaces_5 rfl (by omega) (by omega) (fun c5 => ?_) (fun c5 => ?_)
    · refine x_ret dX9_skipSpaces_35 rfl ?_
      exact ⟨rfl, by rw [← h4, hq]⟩
    · exact absurd c5 (by omega)
  | succ e ih =>
    intro k q h1 h2 h3 h4
    refine x_iload_n dX9_skipSpaces_2 rfl ?_
    refine x_bi _ bi_100 dX9_skipSpaces_3 ?_
    refine x_icmp_geN 35 dX9_skipSpaces_5 rfl (by omega) (by omega) (fun c5 => ?_) (fun c5 => ?_)
    · exact absurd c5 (by omega)
    · refine x_aload_n dX9_skipSpaces_8 rfl ?_
      refine x_bi _ bi_32 dX9_skipSpaces_9 ?_
      refine x_bi _ bi_32 dX9_skipSpaces_11 ?_
      refine x_v2d (N := mX9_isBetween) dX9_skipSpaces_13 ml_X9_50 nv_X9_isBetween rfl rfl (kx_btw (cur S q) tx (cur_txt ht q) q (cur_at S q) h2 32 32 (by omega) (by omega)) ?_
      refine x_if_eqB 35 dX9_skipSpaces_16 rfl (fun c16 => ?_) (fun c16 => ?_)
      · refine x_ret dX9_skipSpaces_35 rfl ?_
        have hn : ch tx q ≠ 32 := fun z => (of_decide_eq_false c16) ⟨by omega, by omega⟩
        exact ⟨rfl, by rw [← h4, sk_ns hn]⟩
      · refine x_aload_n dX9_skipSpaces_19 rfl ?_
        refine x_dup dX9_skipSpaces_20 rfl ?_
        refine x_getIV dX9_skipSpaces_21 fl_X9_29 rfl (cur_at S q) ?_
        refine x_ic _ ic_1 dX9_skipSpaces_24 ?_
        refine x_iaddN dX9_skipSpaces_25 ?_
        refine x_put dX9_skipSpaces_26 fp_X9_29 rfl rfl rfl ?_
        refine x_iincN dX9_skipSpaces_29 rfl rfl ?_
        refine x_goto 2 dX9_skipSpaces_32 rfl ?_
        have h32 : ch tx q = 32 := by have := of_decide_eq_true c16; omega
        have hql := ch_lt (tx := tx) (p := q) (by omega)
        refine x_st (show _ = cur S (q + 1) from (show cur (cur S q) (q + 1) = _ from cur_cur S q (q + 1))) ?_
        exact ih (k + 1) (q + 1) (by omega) (by omega) (by omega) (by rw [← h4, sk_sp h32])
set_option maxRecDepth 100000 in
set_option maxHeartbeats 4000000 in
theorem kx_skip (S : amS) (tx : List Nat) (ht : txtX S tx) (p : Nat) (hp : S.1 47 5 = nI p) (hpl : p ≤ tx.length) : X shX mX9_skipSpaces 0 [.ref 47, .null] [] S (fun r S' => r = none ∧ S' = cur S (sk tx p)) := by
  refine x_ic _ ic_0 dX9_skipSpaces_0 ?_
  refine x_istore_n dX9_skipSpaces_1 rfl ?_
  refine x_st (cur_self hp) ?_
  exact kx_skip_l S tx ht p 100 0 p (by omega) hpl (Nat.zero_le _) rfl
theorem sw_at (x : Int32) (L : Nat) (hL : L < 201) (hx : x = nI L) : x.toInt = L := by rw [hx, nI_toInt (by omega)]
set_option maxRecDepth 100000 in
set_option maxHeartbeats 4000000 in
theorem kx_countNumbers (S : amS) (L d : Nat) (hL : L ≤ 127) : X shX mX9_countNumbers 0 [.int (nI L), .int (nI d)] [] S (fun r S' => r = some (.int (nI (cnt L d))) ∧ S' = S) := by
  refine x_iload_n dX9_countNumbers_0 rfl ?_
  by_cases h1 : L = 100 ∨ L = 109 ∨ L = 116 ∨ L = 120
  · have hc : cnt L d = 1 := by
      unfold cnt
      rw [if_neg (by omega), if_neg (by omega), if_pos (by omega)]
    rw [hc]
    rcases h1 with rfl | rfl | rfl | rfl
    · refine x_lookup 60 dX9_countNumbers_1 (by decide) (by decide : Op.lookupswitch.offset _ _ _ = 59) rfl ?_
      refine x_ic _ ic_1 dX9_countNumbers_60 ?_
      refine x_iretI dX9_countNumbers_61 rfl ?_
      exact ⟨rfl, rfl⟩
    · refine x_lookup 60 dX9_countNumbers_1 (by decide) (by decide : Op.lookupswitch.offset _ _ _ = 59) rfl ?_
      refine x_ic _ ic_1 dX9_countNumbers_60 ?_
      refine x_iretI dX9_countNumbers_61 rfl ?_
      exact ⟨rfl, rfl⟩
    · refine x_lookup 60 dX9_countNumbers_1 (by decide) (by decide : Op.lookupswitch.offset _ _ _ = 59) rfl ?_
      refine x_ic _ ic_1 dX9_countNumbers_60 ?_
      refine x_iretI dX9_countNumbers_61 rfl ?_
      exact ⟨rfl, rfl⟩
    · refine x_lookup 60 dX9_countNumbers_1 (by decide) (by decide : Op.lookupswitch.offset _ _ _ = 59) rfl ?_
      refine x_ic _ ic_1 dX9_countNumbers_60 ?_
      refine x_iretI dX9_countNumbers_61 rfl ?_
      exact ⟨rfl, rfl⟩
  · by_cases h2 : L = 115
    · subst h2
      refine x_lookup 62 dX9_countNumbers_1 (by decide) (by decide : Op.lookupswitch.offset _ _ _ = 61) rfl ?_
      refine x_ic _ ic_2 dX9_countNumbers_62 ?_
      refine x_iretI dX9_countNumbers_63 rfl ?_
      exact ⟨rfl, rfl⟩
    · by_cases h3 : L = 112
      · subst h3
        refine x_lookup 64 dX9_countNumbers_1 (by decide) (by decide : Op.lookupswitch.offset _ _ _ = 63) rfl ?_
        refine x_iload_n dX9_countNumbers_64 rfl ?_
        refine x_iretI dX9_countNumbers_65 rfl ?_
        exact ⟨rfl, rfl⟩
      · have hc : cnt L d = 0 := by
          unfold cnt
          rw [if_neg h3, if_neg h2, if_neg (by omega)]
        rw [hc]
        refine x_lookup 66 dX9_countNumbers_1 (by decide) (off := 65) ?_ rfl ?_
        · have hall : ∀ L, L < 128 → ¬ (L = 100 ∨ L = 109 ∨ L = 116 ∨ L = 120) → L ≠ 115 → L ≠ 112 → Op.lookupswitch.offset [(100, 59), (109, 59), (112, 63), (115, 61), (116, 59), (120, 59)] 65 (nI L).toInt = 65 := by decide +kernel
          exact hall L (by omega) h1 h2 h3
        · refine x_ic _ ic_0 dX9_countNumbers_66 ?_
          refine x_iretI dX9_countNumbers_67 rfl ?_
          exact ⟨rfl, rfl⟩
set_option maxRecDepth 100000 in
set_option maxHeartbeats 4000000 in
theorem kx_rn_t (S : amS) (tx : List Nat) (ht : txtX S tx) (L pl q lo hi m : Nat) (hm : m ≤ 1) (hpl : pl < 136) (hlo : lo + 48 < 128) (hhi : hi ≤ 9) (hq : q ≤ tx.length) (Q : Option Value → amS → Prop) (hno : fig tx lo hi q = false → Q (some (.int (nI 0))) (cur S q)) (hyes : fig tx lo hi q = true → Q (some (.int (nI 1))) (cur (sA S 50 (upd (S.2.1 50) pl (i32 (if m = 1 then -((ch tx q - 48 : Nat) : Int) else ((ch tx q - 48 : Nat) : Int))))) (q + 1))) : X shX mX9_readNumber 70 [.ref 47, .int (nI L), .int (nI pl), .int (nI m), .int (nI (lo + 48)), .int (nI (hi + 48)), .null] [] (cur S q) Q := by
  have h100 : tx.length ≤ 100 := ht.2.1
  refine x_aload_n dX9_readNumber_70 rfl ?_
  refine x_iload dX9_readNumber_71 rfl ?_
  refine x_iload dX9_readNumber_73 rfl ?_
  refine x_v2d (N := mX9_isBetween) dX9_readNumber_75 ml_X9_50 nv_X9_isBetween rfl rfl (kx_btw (cur S q) tx (cur_txt ht q) q (cur_at S q) hq (lo + 48) (hi + 48) hlo (by omega)) ?_
  refine x_if_neB 83 dX9_readNumber_78 rfl (fun c78 => ?_) (fun c78 => ?_)
  · have hfc := of_decide_eq_true c78
    have hql := fig_lt hhi c78
    obtain ⟨hc1, hc2⟩ := tx_at ht hql
    refine x_aload_n dX9_readNumber_83 rfl ?_
    refine x_getR dX9_readNumber_84 fl_X9_9 rfl ?_
    refine x_aload_n dX9_readNumber_87 rfl ?_
    refine x_getIV dX9_readNumber_88 fl_X9_29 rfl (cur_at S q) ?_
    refine x_baldN dX9_readNumber_91 rfl rfl (by omega) (hc2) ?_
    refine x_bi _ bi_48 dX9_readNumber_92 ?_
    refine x_isubN dX9_readNumber_94 (by omega) ?_
    refine x_istore dX9_readNumber_95 rfl ?_
    refine x_aload_n dX9_readNumber_97 rfl ?_
    refine x_getR dX9_readNumber_98 fl_X9_19 rfl ?_
    refine x_iload_n dX9_readNumber_101 rfl ?_
    refine x_iload_n dX9_readNumber_102 rfl ?_
    refine x_if_eqN 112 dX9_readNumber_103 rfl (by omega) (fun c103 => ?_) (fun c103 => ?_)
    · have hm0 : m = 0 := c103
      refine x_iload dX9_readNumber_112 rfl ?_
      refine x_topI ?_
      refine x_iastN dX9_readNumber_114 rfl rfl (by omega) ?_
      refine x_aload_n dX9_readNumber_115 rfl ?_
      refine x_dup dX9_readNumber_116 rfl ?_
      refine x_getIV dX9_readNumber_117 fl_X9_29 rfl (cur_at S q) ?_
      refine x_ic _ ic_1 dX9_readNumber_120 ?_
      refine x_iaddN dX9_readNumber_121 ?_
      refine x_put dX9_readNumber_122 fp_X9_29 rfl rfl rfl ?_
      refine x_ic _ ic_1 dX9_readNumber_125 ?_
      refine x_zret1 dX9_readNumber_126 rfl ?_
      have h9 := hyes c78
      rw [if_neg (by omega), cur_sA S q] at h9
      exact h9
    · have hm1 : m = 1 := by omega
      refine x_iload dX9_readNumber_106 rfl ?_
      refine x_topI ?_
      refine x_inegI dX9_readNumber_108 ?_
      refine x_goto 114 dX9_readNumber_109 rfl ?_
      refine x_iastN dX9_readNumber_114 rfl rfl (by omega) ?_
      refine x_aload_n dX9_readNumber_115 rfl ?_
      refine x_dup dX9_readNumber_116 rfl ?_
      refine x_getIV dX9_readNumber_117 fl_X9_29 rfl (cur_at S q) ?_
      refine x_ic _ ic_1 dX9_readNumber_120 ?_
      refine x_iaddN dX9_readNumber_121 ?_
      refine x_put dX9_readNumber_122 fp_X9_29 rfl rfl rfl ?_
      refine x_ic _ ic_1 dX9_readNumber_125 ?_
      refine x_zret1 dX9_readNumber_126 rfl ?_
      have h9 := hyes c78
      rw [if_pos hm1, cur_sA S q] at h9
      exact h9
  · refine x_ic _ ic_0 dX9_readNumber_81 ?_
    refine x_zret0 dX9_readNumber_82 rfl ?_
    exact hno c78
set_option maxRecDepth 100000 in
set_option maxHeartbeats 4000000 in
theorem kx_readNumber (S : amS) (tx : List Nat) (ht : txtX S tx) (p : Nat) (hp : S.1 47 5 = nI p) (hpl0 : p ≤ tx.length) (L pl : Nat) (hL : L ≤ 127) (hpl : pl < 136) : X shX mX9_readNumber 0 [.ref 47, .int (nI L), .int (nI pl), .null, .null, .null, .null] [] S (fun r S' => (∃ e, rdNum tx L p = .inl e ∧ r = some (.int (nI 0)) ∧ S' = cur S e) ∨ (∃ x q, rdNum tx L p = .inr (x, q) ∧ r = some (.int (nI 1)) ∧ S' = cur (sA S 50 (upd (S.2.1 50) pl (i32 x))) q)) := by
  have h100 : tx.length ≤ 100 := ht.2.1
  have hsk := sk_le hpl0
  refine x_aload_n dX9_readNumber_0 rfl ?_
  refine x_v0 (N := mX9_skipSpaces) dX9_readNumber_1 ml_X9_32 nv_X9_skipSpaces rfl rfl (kx_skip S tx ht p hp hpl0) ?_
  rintro _ _ ⟨rfl, rfl⟩
  refine x_iload_n dX9_readNumber_4 rfl ?_
  refine x_bi _ bi_112 dX9_readNumber_5 ?_
  refine x_icmp_neN 25 dX9_readNumber_7 rfl (by omega) (by omega) (fun c7 => ?_) (fun c7 => ?_)
  · refine x_ic _ ic_0 dX9_readNumber_25 ?_
    have hnm : ¬ (L = 112 ∧ ch tx (sk tx p) = 45) := fun z => c7 z.1
    refine x_istore_n dX9_readNumber_26 rfl ?_
    refine x_bi _ bi_48 dX9_readNumber_27 ?_
    refine x_istore dX9_readNumber_29 rfl ?_
    refine x_bi _ bi_57 dX9_readNumber_31 ?_
    refine x_istore dX9_readNumber_33 rfl ?_
    refine x_iload_n dX9_readNumber_35 rfl ?_
    refine x_if_eqN 56 dX9_readNumber_36 rfl (by omega) (fun c36 => ?_) (fun c36 => ?_)
    · refine x_iload_n dX9_readNumber_56 rfl ?_
      refine x_bi _ bi_100 dX9_readNumber_57 ?_
      refine x_icmp_neN 70 dX9_readNumber_59 rfl (by omega) (by omega) (fun c59 => ?_) (fun c59 => ?_)
      · refine x_loc (show _ = [Value.ref 47, .int (nI L), .int (nI pl), .int (nI 0), .int (nI (flo L + 48)), .int (nI (fhi L + 48)), .null] by unfold flo fhi; rw [if_neg c59, if_neg c59]; rfl) ?_
        refine kx_rn_t S tx ht L pl (sk tx p) (flo L) (fhi L) 0 (by omega) hpl ?_ (fhi_le L) (sk_le hpl0) _ (fun hf => Or.inl ⟨sk tx p, ?_, rfl, rfl⟩) (fun hf => Or.inr ⟨((ch tx (sk tx p) - 48 : Nat) : Int), sk tx p + 1, ?_, rfl, ?_⟩)
        · unfold flo; split <;> omega
        · unfold rdNum; rw [if_neg hnm, if_neg (by rw [hf]; decide)]
        · unfold rdNum; rw [if_neg hnm, if_pos hf]
        · rw [if_neg (by decide)]
      · refine x_bi _ bi_50 dX9_readNumber_62 ?_
        refine x_istore dX9_readNumber_64 rfl ?_
        refine x_bi _ bi_52 dX9_readNumber_66 ?_
        refine x_istore dX9_readNumber_68 rfl ?_
        refine x_loc (show _ = [Value.ref 47, .int (nI L), .int (nI pl), .int (nI 0), .int (nI (flo L + 48)), .int (nI (fhi L + 48)), .null] by unfold flo fhi; rw [if_pos c59, if_pos c59]; rfl) ?_
        refine kx_rn_t S tx ht L pl (sk tx p) (flo L) (fhi L) 0 (by omega) hpl ?_ (fhi_le L) (sk_le hpl0) _ (fun hf => Or.inl ⟨sk tx p, ?_, rfl, rfl⟩) (fun hf => Or.inr ⟨((ch tx (sk tx p) - 48 : Nat) : Int), sk tx p + 1, ?_, rfl, ?_⟩)
        · unfold flo; split <;> omega
        · unfold rdNum; rw [if_neg hnm, if_neg (by rw [hf]; decide)]
        · unfold rdNum; rw [if_neg hnm, if_pos hf]
        · rw [if_neg (by decide)]
    · exact absurd rfl c36
  · refine x_aload_n dX9_readNumber_10 rfl ?_
    refine x_bi _ bi_45 dX9_readNumber_11 ?_
    refine x_bi _ bi_45 dX9_readNumber_13 ?_
    refine x_v2d (N := mX9_isBetween) dX9_readNumber_15 ml_X9_50 nv_X9_isBetween rfl rfl (kx_btw (cur S (sk tx p)) tx (cur_txt ht _) (sk tx p) (cur_at S _) hsk 45 45 (by omega) (by omega)) ?_
    refine x_if_eqB 25 dX9_readNumber_18 rfl (fun c18 => ?_) (fun c18 => ?_)
    · refine x_ic _ ic_0 dX9_readNumber_25 ?_
      have hnm : ¬ (L = 112 ∧ ch tx (sk tx p) = 45) := fun z => (of_decide_eq_false c18) ⟨by omega, by omega⟩
      refine x_istore_n dX9_readNumber_26 rfl ?_
      refine x_bi _ bi_48 dX9_readNumber_27 ?_
      refine x_istore dX9_readNumber_29 rfl ?_
      refine x_bi _ bi_57 dX9_readNumber_31 ?_
      refine x_istore dX9_readNumber_33 rfl ?_
      refine x_iload_n dX9_readNumber_35 rfl ?_
      refine x_if_eqN 56 dX9_readNumber_36 rfl (by omega) (fun c36 => ?_) (fun c36 => ?_)
      · refine x_iload_n dX9_readNumber_56 rfl ?_
        refine x_bi _ bi_100 dX9_readNumber_57 ?_
        refine x_icmp_neN 70 dX9_readNumber_59 rfl (by omega) (by omega) (fun c59 => ?_) (fun c59 => ?_)
        · refine x_loc (show _ = [Value.ref 47, .int (nI L), .int (nI pl), .int (nI 0), .int (nI (flo L + 48)), .int (nI (fhi L + 48)), .null] by unfold flo fhi; rw [if_neg c59, if_neg c59]; rfl) ?_
          refine kx_rn_t S tx ht L pl (sk tx p) (flo L) (fhi L) 0 (by omega) hpl ?_ (fhi_le L) (sk_le hpl0) _ (fun hf => Or.inl ⟨sk tx p, ?_, rfl, rfl⟩) (fun hf => Or.inr ⟨((ch tx (sk tx p) - 48 : Nat) : Int), sk tx p + 1, ?_, rfl, ?_⟩)
          · unfold flo; split <;> omega
          · unfold rdNum; rw [if_neg hnm, if_neg (by rw [hf]; decide)]
          · unfold rdNum; rw [if_neg hnm, if_pos hf]
          · rw [if_neg (by decide)]
        · refine x_bi _ bi_50 dX9_readNumber_62 ?_
          refine x_istore dX9_readNumber_64 rfl ?_
          refine x_bi _ bi_52 dX9_readNumber_66 ?_
          refine x_istore dX9_readNumber_68 rfl ?_
          refine x_loc (show _ = [Value.ref 47, .int (nI L), .int (nI pl), .int (nI 0), .int (nI (flo L + 48)), .int (nI (fhi L + 48)), .null] by unfold flo fhi; rw [if_pos c59, if_pos c59]; rfl) ?_
          refine kx_rn_t S tx ht L pl (sk tx p) (flo L) (fhi L) 0 (by omega) hpl ?_ (fhi_le L) (sk_le hpl0) _ (fun hf => Or.inl ⟨sk tx p, ?_, rfl, rfl⟩) (fun hf => Or.inr ⟨((ch tx (sk tx p) - 48 : Nat) : Int), sk tx p + 1, ?_, rfl, ?_⟩)
          · unfold flo; split <;> omega
          · unfold rdNum; rw [if_neg hnm, if_neg (by rw [hf]; decide)]
          · unfold rdNum; rw [if_neg hnm, if_pos hf]
          · rw [if_neg (by decide)]
      · exact absurd rfl c36
    · have h45 : ch tx (sk tx p) = 45 := by have := of_decide_eq_true c18; omega
      have hql := ch_lt (tx := tx) (p := sk tx p) (by omega)
      refine x_ic _ ic_1 dX9_readNumber_21 ?_
      refine x_goto 26 dX9_readNumber_22 rfl ?_
      refine x_istore_n dX9_readNumber_26 rfl ?_
      refine x_bi _ bi_48 dX9_readNumber_27 ?_
      refine x_istore dX9_readNumber_29 rfl ?_
      refine x_bi _ bi_57 dX9_readNumber_31 ?_
      refine x_istore dX9_readNumber_33 rfl ?_
      refine x_iload_n dX9_readNumber_35 rfl ?_
      refine x_if_eqN 56 dX9_readNumber_36 rfl (by omega) (fun c36 => ?_) (fun c36 => ?_)
      · exact absurd c36 (by omega)
      · refine x_aload_n dX9_readNumber_39 rfl ?_
        refine x_dup dX9_readNumber_40 rfl ?_
        refine x_getIV dX9_readNumber_41 fl_X9_29 rfl (cur_at S _) ?_
        refine x_ic _ ic_1 dX9_readNumber_44 ?_
        refine x_iaddN dX9_readNumber_45 ?_
        refine x_put dX9_readNumber_46 fp_X9_29 rfl rfl rfl ?_
        refine x_bi _ bi_49 dX9_readNumber_49 ?_
        refine x_istore dX9_readNumber_51 rfl ?_
        refine x_goto 70 dX9_readNumber_53 rfl ?_
        refine x_st (show _ = cur S (sk tx p + 1) from (show cur (cur S (sk tx p)) (sk tx p + 1) = _ from cur_cur S _ _)) ?_
        refine kx_rn_t S tx ht L pl (sk tx p + 1) 1 9 1 (by omega) hpl (by omega) (by omega) (by omega) _ (fun hf => Or.inl ⟨sk tx p + 1, ?_, rfl, rfl⟩) (fun hf => Or.inr ⟨-((ch tx (sk tx p + 1) - 48 : Nat) : Int), sk tx p + 2, ?_, rfl, ?_⟩)
        · unfold rdNum; rw [if_pos ⟨c7, h45⟩, if_neg (by rw [hf]; decide)]
        · unfold rdNum; rw [if_pos ⟨c7, h45⟩, if_pos hf]
        · rw [if_pos rfl]
