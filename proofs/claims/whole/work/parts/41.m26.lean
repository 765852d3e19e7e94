/-! THE REFERENCE: here, must, figure, signed, plain, numbersOf -/
def TxS (S : amS) (tx : List Nat) : Prop := S.1 0 6 = nI tx.length ∧ tx.length ≤ 100 ∧ ∀ (k b : Nat), tx[k]? = some b → b ≤ 127 ∧ S.2.1 5 k = nI b
def At (S0 S : amS) (p : Nat) : Prop := (∀ k, k ≠ 27 → S.1 0 k = S0.1 0 k) ∧ S.2 = S0.2 ∧ S.1 0 27 = nI p
def Flt (S0 S : amS) (e : Nat) : Prop := (∀ k, k ≠ 27 → k ≠ 28 → S.1 0 k = S0.1 0 k) ∧ S.2 = S0.2 ∧ S.1 0 28 = nI e
def hv (tx : List Nat) (q : Nat) : Int32 := if q < tx.length then nI (ch tx q) else i32 (-1)
theorem TxS.c {S : amS} {tx : List Nat} (h : TxS S tx) {p : Nat} (hp : p < tx.length) : ch tx p ≤ 127 ∧ S.2.1 5 p = nI (ch tx p) := h.2.2 p _ (ch_get hp)
theorem TxS.at {S0 S : amS} {tx : List Nat} {p : Nat} (h : TxS S0 tx) (hA : At S0 S p) : TxS S tx := by
  refine ⟨(hA.1 6 (by omega)).trans h.1, h.2.1, ?_⟩
  rw [hA.2.1]
  exact h.2.2
theorem At.tr {S0 S1 S2 : amS} {p q : Nat} (h : At S0 S1 p) (h' : At S1 S2 q) : At S0 S2 q := ⟨fun k hk => (h'.1 k hk).trans (h.1 k hk), h'.2.1.trans h.2.1, h'.2.2⟩
theorem At.fl {S0 S1 S2 : amS} {p e : Nat} (h : At S0 S1 p) (h' : Flt S1 S2 e) : Flt S0 S2 e := ⟨fun k hk h2 => (h'.1 k hk h2).trans (h.1 k hk), h'.2.1.trans h.2.1, h'.2.2⟩
theorem At.put (S : amS) (p : Nat) : At S (sF S 0 (upd (S.1 0) 27 (nI p))) p := ⟨fun k hk => by
  show va_up S.1 0 (upd (S.1 0) 27 (nI p)) 0 k = _
  rw [va_up_s, upd_n _ _ hk], rfl, rfl⟩
theorem hv_in {tx : List Nat} {q : Nat} (h : q < tx.length) : hv tx q = nI (ch tx q) := if_pos h
theorem hv_end {tx : List Nat} {q : Nat} (h : ¬ q < tx.length) : hv tx q = i32 (-1) := if_neg h
theorem hv_eq {S : amS} {tx : List Nat} (hT : TxS S tx) {q c : Nat} (hc : c ≤ 127) : hv tx q = nI c ↔ ch tx q = c := by
  by_cases h : q < tx.length
  · rw [hv_in h]
    have := (hT.c h).1
    constructor
    · intro e; rwa [nI_eq (by omega) (by omega)] at e
    · intro e; rw [e]
  · rw [hv_end h, ch_end (by omega)]
    constructor
    · intro e
      rw [nI_i32, i32_eq (by omega) (by omega)] at e
      omega
    · intro e; omega
theorem hv_no {S : amS} {tx : List Nat} (hT : TxS S tx) {q : Nat} : hv tx q = i32 (-1) ↔ ¬ q < tx.length := by
  constructor
  · intro e h
    rw [hv_in h] at e
    have := (hT.c h).1
    rw [nI_i32, i32_eq (by omega) (by omega)] at e
    omega
  · exact hv_end
set_option maxRecDepth 100000 in
set_option maxHeartbeats 4000000 in
theorem k_here (tx : List Nat) : ∀ (k : Nat) (S : amS) (p : Nat), tx.length - p = k → p ≤ tx.length → TxS S tx → S.1 0 27 = nI p → X shM mX11_here 0 [.ref 0] [] S (fun r S' => r = some (.int (hv tx (sk tx p))) ∧ At S S' (sk tx p)) := by
  intro k
  induction k with
  | zero =>
    intro S p h1 h2 hT h27
    have hl := hT.2.1
    obtain rfl : p = tx.length := by omega
    rw [sk_ns (by rw [ch_end (Nat.le_refl _)]; omega), hv_end (by omega)]
    refine x_aload_n dX11_here_0 rfl ?_
    refine x_getIV dX11_here_1 fl_X11_249 rfl (h27) ?_
    refine x_aload_n dX11_here_4 rfl ?_
    refine x_getIV dX11_here_5 fl_X11_246 rfl (hT.1) ?_
    refine x_icmp_geN 38 dX11_here_8 rfl (by omega) (by omega) (fun c8 => ?_) (fun c8 => ?_)
    · refine x_aload_n dX11_here_38 rfl ?_
      refine x_getIV dX11_here_39 fl_X11_249 rfl (h27) ?_
      refine x_aload_n dX11_here_42 rfl ?_
      refine x_getIV dX11_here_43 fl_X11_246 rfl (hT.1) ?_
      refine x_icmp_geN 61 dX11_here_46 rfl (by omega) (by omega) (fun c46 => ?_) (fun c46 => ?_)
      · refine x_ic _ ic_m1 dX11_here_61 ?_
        refine x_iretI dX11_here_62 rfl ?_
        exact ⟨rfl, ⟨fun _ _ => rfl, rfl, h27⟩⟩
      · exact absurd c46 (by omega)
    · exact absurd c8 (by omega)
  | succ k ih =>
    intro S p h1 h2 hT h27
    have hl := hT.2.1
    have hlt : p < tx.length := by omega
    obtain ⟨hc, hv5⟩ := hT.c hlt
    refine x_aload_n dX11_here_0 rfl ?_
    refine x_getIV dX11_here_1 fl_X11_249 rfl (h27) ?_
    refine x_aload_n dX11_here_4 rfl ?_
    refine x_getIV dX11_here_5 fl_X11_246 rfl (hT.1) ?_
    refine x_icmp_geN 38 dX11_here_8 rfl (by omega) (by omega) (fun c8 => ?_) (fun c8 => ?_)
    · exact absurd c8 (by omega)
    · refine x_aload_n dX11_here_11 rfl ?_
      refine x_getR dX11_here_12 fl_X11_22 rfl ?_
      refine x_aload_n dX11_here_15 rfl ?_
      refine x_getIV dX11_here_16 fl_X11_249 rfl (h27) ?_
      refine x_ialdN dX11_here_19 rfl rfl (by omega) (hv5) ?_
      refine x_bi _ bi_32 dX11_here_20 ?_
      refine x_icmp_neN 38 dX11_here_22 rfl (by omega) (by omega) (fun c22 => ?_) (fun c22 => ?_)
      · rw [sk_ns c22, hv_in hlt]
        refine x_aload_n dX11_here_38 rfl ?_
        refine x_getIV dX11_here_39 fl_X11_249 rfl (h27) ?_
        refine x_aload_n dX11_here_42 rfl ?_
        refine x_getIV dX11_here_43 fl_X11_246 rfl (hT.1) ?_
        refine x_icmp_geN 61 dX11_here_46 rfl (by omega) (by omega) (fun c46 => ?_) (fun c46 => ?_)
        · exact absurd c46 (by omega)
        · refine x_aload_n dX11_here_49 rfl ?_
          refine x_getR dX11_here_50 fl_X11_22 rfl ?_
          refine x_aload_n dX11_here_53 rfl ?_
          refine x_getIV dX11_here_54 fl_X11_249 rfl (h27) ?_
          refine x_ialdN dX11_here_57 rfl rfl (by omega) (hv5) ?_
          refine x_goto 62 dX11_here_58 rfl ?_
          refine x_iretI dX11_here_62 rfl ?_
          exact ⟨rfl, ⟨fun _ _ => rfl, rfl, h27⟩⟩
      · rw [sk_sp c22]
        refine x_aload_n dX11_here_25 rfl ?_
        refine x_dup dX11_here_26 rfl ?_
        refine x_getIV dX11_here_27 fl_X11_249 rfl (h27) ?_
        refine x_ic _ ic_1 dX11_here_30 ?_
        refine x_iaddN dX11_here_31 ?_
        refine x_put dX11_here_32 fp_X11_249 rfl rfl rfl ?_
        refine x_goto 0 dX11_here_35 rfl ?_
        refine x_mono ?_ (ih _ (p + 1) (by omega) (by omega) (hT.at (At.put S (p + 1))) rfl)
        rintro _ S' ⟨rfl, h⟩
        exact ⟨rfl, (At.put S (p + 1)).tr h⟩
theorem k_here0 (S : amS) (tx : List Nat) (p : Nat) (hp : p ≤ tx.length) (hT : TxS S tx) (h27 : S.1 0 27 = nI p) : X shM mX11_here 0 [.ref 0] [] S (fun r S' => r = some (.int (hv tx (sk tx p))) ∧ At S S' (sk tx p)) := k_here tx _ S p rfl hp hT h27
set_option maxRecDepth 100000 in
set_option maxHeartbeats 4000000 in
theorem k_must_t (S : amS) (b : Bool) (hb : b = true) : X shM mX11_must 0 [.ref 0, .int (zB b)] [] S (fun r S' => r = none ∧ S' = S) := by
  refine x_aload_n dX11_must_0 rfl ?_
  refine x_getI dX11_must_1 fl_X11_252 rfl ?_
  refine x_ic _ ic_m1 dX11_must_4 ?_
  refine x_icmp_ne 20 dX11_must_5 rfl (fun c5 => ?_) (fun c5 => ?_)
  · refine x_ret dX11_must_20 rfl ?_
    exact ⟨rfl, rfl⟩
  · refine x_iload_n dX11_must_8 rfl ?_
    refine x_if_neB 20 dX11_must_9 rfl (fun c9 => ?_) (fun c9 => ?_)
    · refine x_ret dX11_must_20 rfl ?_
      exact ⟨rfl, rfl⟩
    · rw [hb] at c9; cases c9
set_option maxRecDepth 100000 in
set_option maxHeartbeats 4000000 in
theorem k_must_f (S : amS) (b : Bool) (hb : b = false) (h28 : S.1 0 28 = i32 (-1)) : X shM mX11_must 0 [.ref 0, .int (zB b)] [] S (fun r S' => r = none ∧ S' = sF S 0 (upd (S.1 0) 28 (S.1 0 27))) := by
  refine x_aload_n dX11_must_0 rfl ?_
  refine x_getIV dX11_must_1 fl_X11_252 rfl (h28) ?_
  refine x_ic _ ic_m1 dX11_must_4 ?_
  refine x_icmp_neI 20 dX11_must_5 rfl (by omega) (by omega) (fun c5 => ?_) (fun c5 => ?_)
  · exact absurd rfl c5
  · refine x_iload_n dX11_must_8 rfl ?_
    refine x_if_neB 20 dX11_must_9 rfl (fun c9 => ?_) (fun c9 => ?_)
    · rw [hb] at c9; cases c9
    · refine x_aload_n dX11_must_12 rfl ?_
      refine x_aload_n dX11_must_13 rfl ?_
      refine x_getI dX11_must_14 fl_X11_249 rfl ?_
      refine x_put dX11_must_17 fp_X11_252 rfl rfl rfl ?_
      refine x_ret dX11_must_20 rfl ?_
      exact ⟨rfl, rfl⟩
set_option maxRecDepth 100000 in
set_option maxHeartbeats 4000000 in
theorem k_figure_ok (S : amS) (tx : List Nat) (p : Nat) (hp : p ≤ tx.length) (hT : TxS S tx) (h27 : S.1 0 27 = nI p) (h28 : S.1 0 28 = i32 (-1)) (lo hi : Nat) (hh : hi ≤ 9) (hf : fig tx lo hi p = true) : X shM mX11_figure 0 [.ref 0, .int (nI lo), .int (nI hi), .null] [] S (fun r S' => r = some (.int (nI (ch tx p - 48))) ∧ At S S' (p + 1)) := by
  have hl := hT.2.1
  have hlt := fig_lt hh hf
  have h2 := of_decide_eq_true hf
  obtain ⟨hc, h5⟩ := hT.c hlt
  refine x_aload_n dX11_figure_0 rfl ?_
  refine x_getIV dX11_figure_1 fl_X11_249 rfl (h27) ?_
  refine x_aload_n dX11_figure_4 rfl ?_
  refine x_getIV dX11_figure_5 fl_X11_246 rfl (hT.1) ?_
  refine x_icmp_geN 26 dX11_figure_8 rfl (by omega) (by omega) (fun c8 => ?_) (fun c8 => ?_)
  · exact absurd c8 (by omega)
  · refine x_aload_n dX11_figure_11 rfl ?_
    refine x_getR dX11_figure_12 fl_X11_22 rfl ?_
    refine x_aload_n dX11_figure_15 rfl ?_
    refine x_getIV dX11_figure_16 fl_X11_249 rfl (h27) ?_
    refine x_ialdN dX11_figure_19 rfl rfl (by omega) (h5) ?_
    refine x_bi _ bi_48 dX11_figure_20 ?_
    refine x_isubN dX11_figure_22 (by omega) ?_
    refine x_goto 27 dX11_figure_23 rfl ?_
    refine x_istore_n dX11_figure_27 rfl ?_
    refine x_aload_n dX11_figure_28 rfl ?_
    refine x_iload_n dX11_figure_29 rfl ?_
    refine x_iload_n dX11_figure_30 rfl ?_
    refine x_iload_n dX11_figure_31 rfl ?_
    refine x_s3d (N := mX11_in) dX11_figure_32 ml_X11_113 ns_X11_in rfl (k_in S _ _ _) ?_
    refine x_v1n (N := mX11_must) dX11_figure_35 ml_X11_255 nv_X11_must rfl rfl (k_must_t S _ (decide_eq_true ⟨nI_le (by omega) (by omega), nI_le (by omega) (by omega)⟩)) ?_
    refine x_aload_n dX11_figure_38 rfl ?_
    refine x_dup dX11_figure_39 rfl ?_
    refine x_getIV dX11_figure_40 fl_X11_249 rfl (h27) ?_
    refine x_aload_n dX11_figure_43 rfl ?_
    refine x_getIV dX11_figure_44 fl_X11_252 rfl (h28) ?_
    refine x_ic _ ic_m1 dX11_figure_47 ?_
    refine x_icmp_neI 55 dX11_figure_48 rfl (by omega) (by omega) (fun c48 => ?_) (fun c48 => ?_)
    · exact absurd rfl c48
    · refine x_ic _ ic_1 dX11_figure_51 ?_
      refine x_goto 56 dX11_figure_52 rfl ?_
      refine x_iaddN dX11_figure_56 ?_
      refine x_put dX11_figure_57 fp_X11_249 rfl rfl rfl ?_
      refine x_iload_n dX11_figure_60 rfl ?_
      refine x_iretI dX11_figure_61 rfl ?_
      exact ⟨rfl, At.put S (p + 1)⟩
set_option maxRecDepth 100000 in
set_option maxHeartbeats 4000000 in
theorem k_figure_in (S : amS) (tx : List Nat) (p : Nat) (hp : p ≤ tx.length) (hT : TxS S tx) (h27 : S.1 0 27 = nI p) (h28 : S.1 0 28 = i32 (-1)) (hlt : p < tx.length) (U V : Int32) (hf : ¬ (U ≤ i32 ((ch tx p : Int) - (48 : Nat)) ∧ i32 ((ch tx p : Int) - (48 : Nat)) ≤ V)) : X shM mX11_figure 0 [.ref 0, .int U, .int V, .null] [] S (fun r S' => (∃ v, r = some (.int v)) ∧ Flt S S' p) := by
  have hl := hT.2.1
  obtain ⟨hc, h5⟩ := hT.c hlt
  refine x_aload_n dX11_figure_0 rfl ?_
  refine x_getIV dX11_figure_1 fl_X11_249 rfl (h27) ?_
  refine x_aload_n dX11_figure_4 rfl ?_
  refine x_getIV dX11_figure_5 fl_X11_246 rfl (hT.1) ?_
  refine x_icmp_geN 26 dX11_figure_8 rfl (by omega) (by omega) (fun c8 => ?_) (fun c8 => ?_)
  · exact absurd c8 (by omega)
  · refine x_aload_n dX11_figure_11 rfl ?_
    refine x_getR dX11_figure_12 fl_X11_22 rfl ?_
    refine x_aload_n dX11_figure_15 rfl ?_
    refine x_getIV dX11_figure_16 fl_X11_249 rfl (h27) ?_
    refine x_ialdN dX11_figure_19 rfl rfl (by omega) (h5) ?_
    refine x_bi _ bi_48 dX11_figure_20 ?_
    refine x_isubZ dX11_figure_22 ?_
    refine x_goto 27 dX11_figure_23 rfl ?_
    refine x_istore_n dX11_figure_27 rfl ?_
    refine x_aload_n dX11_figure_28 rfl ?_
    refine x_iload_n dX11_figure_29 rfl ?_
    refine x_iload_n dX11_figure_30 rfl ?_
    refine x_iload_n dX11_figure_31 rfl ?_
    refine x_s3d (N := mX11_in) dX11_figure_32 ml_X11_113 ns_X11_in rfl (k_in S _ _ _) ?_
    refine x_v1n (N := mX11_must) dX11_figure_35 ml_X11_255 nv_X11_must rfl rfl (k_must_f S _ (decide_eq_false hf) h28) ?_
    refine x_aload_n dX11_figure_38 rfl ?_
    refine x_dup dX11_figure_39 rfl ?_
    refine x_getIV dX11_figure_40 fl_X11_249 rfl (h27) ?_
    refine x_aload_n dX11_figure_43 rfl ?_
    refine x_getIV dX11_figure_44 fl_X11_252 rfl (h27) ?_
    refine x_ic _ ic_m1 dX11_figure_47 ?_
    refine x_topI2 ?_
    refine x_icmp_neI 55 dX11_figure_48 rfl (by omega) (by omega) (fun c48 => ?_) (fun c48 => ?_)
    · refine x_ic _ ic_0 dX11_figure_55 ?_
      refine x_iaddN dX11_figure_56 ?_
      refine x_put dX11_figure_57 fp_X11_249 rfl rfl rfl ?_
      refine x_iload_n dX11_figure_60 rfl ?_
      refine x_iretI dX11_figure_61 rfl ?_
      refine ⟨⟨_, rfl⟩, ⟨fun k q1 q2 => ?_, rfl, ?_⟩⟩
      · show upd (upd (S.1 0) 28 (S.1 0 27)) 27 (nI (p + 0)) k = _
        rw [upd_n _ _ q1, upd_n _ _ q2]
      · exact h27
    · omega
set_option maxRecDepth 100000 in
set_option maxHeartbeats 4000000 in
theorem k_figure_end (S : amS) (tx : List Nat) (p : Nat) (hp : p ≤ tx.length) (hT : TxS S tx) (h27 : S.1 0 27 = nI p) (h28 : S.1 0 28 = i32 (-1)) (hlt : ¬ p < tx.length) (U V : Int32) (hf : ¬ (U ≤ i32 (-1) ∧ i32 (-1) ≤ V)) : X shM mX11_figure 0 [.ref 0, .int U, .int V, .null] [] S (fun r S' => (∃ v, r = some (.int v)) ∧ Flt S S' p) := by
  have hl := hT.2.1
  refine x_aload_n dX11_figure_0 rfl ?_
  refine x_getIV dX11_figure_1 fl_X11_249 rfl (h27) ?_
  refine x_aload_n dX11_figure_4 rfl ?_
  refine x_getIV dX11_figure_5 fl_X11_246 rfl (hT.1) ?_
  refine x_icmp_geN 26 dX11_figure_8 rfl (by omega) (by omega) (fun c8 => ?_) (fun c8 => ?_)
  · refine x_ic _ ic_m1 dX11_figure_26 ?_
    refine x_istore_n dX11_figure_27 rfl ?_
    refine x_aload_n dX11_figure_28 rfl ?_
    refine x_iload_n dX11_figure_29 rfl ?_
    refine x_iload_n dX11_figure_30 rfl ?_
    refine x_iload_n dX11_figure_31 rfl ?_
    refine x_s3d (N := mX11_in) dX11_figure_32 ml_X11_113 ns_X11_in rfl (k_in S _ _ _) ?_
    refine x_v1n (N := mX11_must) dX11_figure_35 ml_X11_255 nv_X11_must rfl rfl (k_must_f S _ (decide_eq_false hf) h28) ?_
    refine x_aload_n dX11_figure_38 rfl ?_
    refine x_dup dX11_figure_39 rfl ?_
    refine x_getIV dX11_figure_40 fl_X11_249 rfl (h27) ?_
    refine x_aload_n dX11_figure_43 rfl ?_
    refine x_getIV dX11_figure_44 fl_X11_252 rfl (h27) ?_
    refine x_ic _ ic_m1 dX11_figure_47 ?_
    refine x_topI2 ?_
    refine x_icmp_neI 55 dX11_figure_48 rfl (by omega) (by omega) (fun c48 => ?_) (fun c48 => ?_)
    · refine x_ic _ ic_0 dX11_figure_55 ?_
      refine x_iaddN dX11_figure_56 ?_
      refine x_put dX11_figure_57 fp_X11_249 rfl rfl rfl ?_
      refine x_iload_n dX11_figure_60 rfl ?_
      refine x_iretI dX11_figure_61 rfl ?_
      refine ⟨⟨_, rfl⟩, ⟨fun k q1 q2 => ?_, rfl, ?_⟩⟩
      · show upd (upd (S.1 0) 28 (S.1 0 27)) 27 (nI (p + 0)) k = _
        rw [upd_n _ _ q1, upd_n _ _ q2]
      · exact h27
    · omega
  · exact absurd c8 (by omega)
theorem k_figure_bad (S : amS) (tx : List Nat) (p : Nat) (hp : p ≤ tx.length) (hT : TxS S tx) (h27 : S.1 0 27 = nI p) (h28 : S.1 0 28 = i32 (-1)) (lo hi : Nat) (hh : hi ≤ 9) (hlo : lo ≤ 9) (hf : fig tx lo hi p = false) : X shM mX11_figure 0 [.ref 0, .int (nI lo), .int (nI hi), .null] [] S (fun r S' => (∃ v, r = some (.int v)) ∧ Flt S S' p) := by
  have h2 := of_decide_eq_false hf
  by_cases hlt : p < tx.length
  · have hc := (hT.c hlt).1
    refine k_figure_in S tx p hp hT h27 h28 hlt _ _ (fun z => h2 ?_)
    rw [nI_i32, nI_i32, i32_le (by omega) (by omega), i32_le (by omega) (by omega)] at z
    omega
  · refine k_figure_end S tx p hp hT h27 h28 hlt _ _ (fun z => ?_)
    rw [nI_i32, i32_le (by omega) (by omega)] at z
    omega
set_option maxRecDepth 100000 in
set_option maxHeartbeats 4000000 in
theorem k_signed_ok (S : amS) (tx : List Nat) (p : Nat) (hp : p ≤ tx.length) (hT : TxS S tx) (h27 : S.1 0 27 = nI p) (h28 : S.1 0 28 = i32 (-1)) (x : Int) (q : Nat) (hr : rdNum tx 112 p = .inr (x, q)) : X shM mX11_signed 0 [.ref 0] [] S (fun r S' => r = some (.int (i32 x)) ∧ At S S' q) := by
  have hq := sk_le hp
  have hl := hT.2.1
  refine x_aload_n dX11_signed_0 rfl ?_
  refine x_v0 (N := mX11_here) dX11_signed_1 ml_X11_259 nv_X11_here rfl rfl (k_here0 S tx p hp hT h27) ?_
  rintro _ S1 ⟨rfl, hA⟩
  have hT1 := hT.at hA
  have h281 : S1.1 0 28 = i32 (-1) := (hA.1 28 (by omega)).trans h28
  refine x_bi _ bi_45 dX11_signed_4 ?_
  refine x_icmp_eq 17 dX11_signed_6 rfl (fun c6 => ?_) (fun c6 => ?_)
  · rw [hv_eq hT1 (by omega)] at c6
    have hq1 : sk tx p + 1 ≤ tx.length := ch_lt (tx := tx) (p := sk tx p) (by omega)
    unfold rdNum at hr
    rw [if_pos ⟨rfl, c6⟩] at hr
    split at hr
    · rename_i hf
      injection hr with hr
      injection hr with e1 e2
      subst e1 e2
      refine x_aload_n dX11_signed_17 rfl ?_
      refine x_dup dX11_signed_18 rfl ?_
      refine x_getIV dX11_signed_19 fl_X11_249 rfl (hA.2.2) ?_
      refine x_ic _ ic_1 dX11_signed_22 ?_
      refine x_iaddN dX11_signed_23 ?_
      refine x_put dX11_signed_24 fp_X11_249 rfl rfl rfl ?_
      refine x_aload_n dX11_signed_27 rfl ?_
      refine x_ic _ ic_1 dX11_signed_28 ?_
      refine x_bi _ bi_9 dX11_signed_29 ?_
      refine x_v2 (N := mX11_figure) dX11_signed_31 ml_X11_262 nv_X11_figure rfl rfl (k_figure_ok (sF S1 0 (upd (S1.1 0) 27 (nI (sk tx p + 1)))) tx (sk tx p + 1) hq1 (hT1.at (At.put S1 (sk tx p + 1))) (At.put S1 (sk tx p + 1)).2.2 (((At.put S1 (sk tx p + 1)).1 28 (by omega)).trans h281) 1 9 (by omega) hf) ?_
      rintro _ S2 ⟨rfl, hA2⟩
      refine x_topI ?_
      refine x_inegI dX11_signed_34 ?_
      refine x_iretI dX11_signed_35 rfl ?_
      exact ⟨rfl, (hA.tr (At.put S1 (sk tx p + 1))).tr hA2⟩
    · cases hr
  · rw [hv_eq hT1 (by omega)] at c6
    unfold rdNum at hr
    rw [if_neg (fun z => c6 z.2)] at hr
    split at hr
    · rename_i hf
      injection hr with hr
      injection hr with e1 e2
      subst e1 e2
      refine x_aload_n dX11_signed_9 rfl ?_
      refine x_ic _ ic_0 dX11_signed_10 ?_
      refine x_bi _ bi_9 dX11_signed_11 ?_
      refine x_v2 (N := mX11_figure) dX11_signed_13 ml_X11_262 nv_X11_figure rfl rfl (k_figure_ok S1 tx (sk tx p) hq hT1 hA.2.2 h281 0 9 (by omega) hf) ?_
      rintro _ S2 ⟨rfl, hA2⟩
      refine x_iretI dX11_signed_16 rfl ?_
      exact ⟨by rw [nI_i32], hA.tr hA2⟩
    · cases hr
set_option maxRecDepth 100000 in
set_option maxHeartbeats 4000000 in
theorem k_signed_bad (S : amS) (tx : List Nat) (p : Nat) (hp : p ≤ tx.length) (hT : TxS S tx) (h27 : S.1 0 27 = nI p) (h28 : S.1 0 28 = i32 (-1)) (e : Nat) (hr : rdNum tx 112 p = .inl e) : X shM mX11_signed 0 [.ref 0] [] S (fun r S' => (∃ v, r = some (.int v)) ∧ Flt S S' e) := by
  have hq := sk_le hp
  have hl := hT.2.1
  refine x_aload_n dX11_signed_0 rfl ?_
  refine x_v0 (N := mX11_here) dX11_signed_1 ml_X11_259 nv_X11_here rfl rfl (k_here0 S tx p hp hT h27) ?_
  rintro _ S1 ⟨rfl, hA⟩
  have hT1 := hT.at hA
  have h281 : S1.1 0 28 = i32 (-1) := (hA.1 28 (by omega)).trans h28
  refine x_bi _ bi_45 dX11_signed_4 ?_
  refine x_icmp_eq 17 dX11_signed_6 rfl (fun c6 => ?_) (fun c6 => ?_)
  · rw [hv_eq hT1 (by omega)] at c6
    have hq1 : sk tx p + 1 ≤ tx.length := ch_lt (tx := tx) (p := sk tx p) (by omega)
    unfold rdNum at hr
    rw [if_pos ⟨rfl, c6⟩] at hr
    split at hr
    · cases hr
    · rename_i hf
      injection hr with hr
      subst hr
      refine x_aload_n dX11_signed_17 rfl ?_
      refine x_dup dX11_signed_18 rfl ?_
      refine x_getIV dX11_signed_19 fl_X11_249 rfl (hA.2.2) ?_
      refine x_ic _ ic_1 dX11_signed_22 ?_
      refine x_iaddN dX11_signed_23 ?_
      refine x_put dX11_signed_24 fp_X11_249 rfl rfl rfl ?_
      refine x_aload_n dX11_signed_27 rfl ?_
      refine x_ic _ ic_1 dX11_signed_28 ?_
      refine x_bi _ bi_9 dX11_signed_29 ?_
      refine x_v2 (N := mX11_figure) dX11_signed_31 ml_X11_262 nv_X11_figure rfl rfl (k_figure_bad (sF S1 0 (upd (S1.1 0) 27 (nI (sk tx p + 1)))) tx (sk tx p + 1) hq1 (hT1.at (At.put S1 (sk tx p + 1))) (At.put S1 (sk tx p + 1)).2.2 (((At.put S1 (sk tx p + 1)).1 28 (by omega)).trans h281) 1 9 (by omega) (by omega) (by simpa using hf)) ?_
      rintro _ S2 ⟨⟨v, rfl⟩, hA2⟩
      refine x_ineg dX11_signed_34 ?_
      refine x_iretI dX11_signed_35 rfl ?_
      exact ⟨⟨_, rfl⟩, (hA.tr (At.put S1 (sk tx p + 1))).fl hA2⟩
  · rw [hv_eq hT1 (by omega)] at c6
    unfold rdNum at hr
    rw [if_neg (fun z => c6 z.2)] at hr
    split at hr
    · cases hr
    · rename_i hf
      injection hr with hr
      subst hr
      refine x_aload_n dX11_signed_9 rfl ?_
      refine x_ic _ ic_0 dX11_signed_10 ?_
      refine x_bi _ bi_9 dX11_signed_11 ?_
      refine x_v2 (N := mX11_figure) dX11_signed_13 ml_X11_262 nv_X11_figure rfl rfl (k_figure_bad S1 tx (sk tx p) hq hT1 hA.2.2 h281 0 9 (by omega) (by omega) (Bool.eq_false_iff.mpr hf)) ?_
      rintro _ S2 ⟨⟨v, rfl⟩, hA2⟩
      refine x_iretI dX11_signed_16 rfl ?_
      exact ⟨⟨_, rfl⟩, hA.fl hA2⟩
set_option maxRecDepth 100000 in
set_option maxHeartbeats 4000000 in
theorem k_plain_ok (S : amS) (tx : List Nat) (p : Nat) (hp : p ≤ tx.length) (hT : TxS S tx) (h27 : S.1 0 27 = nI p) (h28 : S.1 0 28 = i32 (-1)) (L : Nat) (hL : L ≠ 112) (b : Bool) (hb : b = decide (L = 100)) (x : Int) (q : Nat) (hr : rdNum tx L p = .inr (x, q)) : X shM mX11_plain 0 [.ref 0, .int (zB b), .null] [] S (fun r S' => r = some (.int (i32 x)) ∧ At S S' q) := by
  have hq := sk_le hp
  have hl := hT.2.1
  unfold rdNum at hr
  rw [if_neg (fun z => hL z.1)] at hr
  split at hr
  rotate_left
  · cases hr
  rename_i hf
  injection hr with hr
  injection hr with e1 e2
  subst e1 e2
  refine x_aload_n dX11_plain_0 rfl ?_
  refine x_v0 (N := mX11_here) dX11_plain_1 ml_X11_259 nv_X11_here rfl rfl (k_here0 S tx p hp hT h27) ?_
  rintro _ S1 ⟨rfl, hA⟩
  have hT1 := hT.at hA
  have h281 : S1.1 0 28 = i32 (-1) := (hA.1 28 (by omega)).trans h28
  refine x_istore_n dX11_plain_4 rfl ?_
  refine x_iload_n dX11_plain_5 rfl ?_
  refine x_ic _ ic_m1 dX11_plain_6 ?_
  refine x_icmp_ne 19 dX11_plain_7 rfl (fun c7 => ?_) (fun c7 => ?_)
  · refine x_iload_n dX11_plain_19 rfl ?_
    refine x_if_eqB 32 dX11_plain_20 rfl (fun c20 => ?_) (fun c20 => ?_)
    · have hn : ¬ L = 100 := by rw [c20] at hb; exact of_decide_eq_false hb.symm
      have hf2 : fig tx 0 9 (sk tx p) = true := by unfold flo fhi at hf; rwa [if_neg hn, if_neg hn] at hf
      refine x_aload_n dX11_plain_32 rfl ?_
      refine x_ic _ ic_0 dX11_plain_33 ?_
      refine x_bi _ bi_9 dX11_plain_34 ?_
      refine x_v2 (N := mX11_figure) dX11_plain_36 ml_X11_262 nv_X11_figure rfl rfl (k_figure_ok S1 tx (sk tx p) hq hT1 hA.2.2 h281 0 9 (by omega) hf2) ?_
      rintro _ S2 ⟨rfl, hA2⟩
      refine x_iretI dX11_plain_39 rfl ?_
      exact ⟨by rw [nI_i32], hA.tr hA2⟩
    · have hn : L = 100 := by rw [c20] at hb; exact of_decide_eq_true hb.symm
      have hf2 : fig tx 2 4 (sk tx p) = true := by unfold flo fhi at hf; rwa [if_pos hn, if_pos hn] at hf
      refine x_aload_n dX11_plain_23 rfl ?_
      refine x_ic _ ic_2 dX11_plain_24 ?_
      refine x_ic _ ic_4 dX11_plain_25 ?_
      refine x_v2 (N := mX11_figure) dX11_plain_26 ml_X11_262 nv_X11_figure rfl rfl (k_figure_ok S1 tx (sk tx p) hq hT1 hA.2.2 h281 2 4 (by omega) hf2) ?_
      rintro _ S2 ⟨rfl, hA2⟩
      refine x_goto 39 dX11_plain_29 rfl ?_
      refine x_iretI dX11_plain_39 rfl ?_
      exact ⟨by rw [nI_i32], hA.tr hA2⟩
  · rw [hv_no hT1] at c7
    exact absurd (fig_lt (fhi_le L) hf) c7
set_option maxRecDepth 100000 in
set_option maxHeartbeats 4000000 in
theorem k_plain_bad (S : amS) (tx : List Nat) (p : Nat) (hp : p ≤ tx.length) (hT : TxS S tx) (h27 : S.1 0 27 = nI p) (h28 : S.1 0 28 = i32 (-1)) (L : Nat) (hL : L ≠ 112) (b : Bool) (hb : b = decide (L = 100)) (e : Nat) (hr : rdNum tx L p = .inl e) : X shM mX11_plain 0 [.ref 0, .int (zB b), .null] [] S (fun r S' => (∃ v, r = some (.int v)) ∧ Flt S S' e) := by
  have hq := sk_le hp
  have hl := hT.2.1
  unfold rdNum at hr
  rw [if_neg (fun z => hL z.1)] at hr
  split at hr
  · cases hr
  rename_i hf
  injection hr with hr
  subst hr
  refine x_aload_n dX11_plain_0 rfl ?_
  refine x_v0 (N := mX11_here) dX11_plain_1 ml_X11_259 nv_X11_here rfl rfl (k_here0 S tx p hp hT h27) ?_
  rintro _ S1 ⟨rfl, hA⟩
  have hT1 := hT.at hA
  have h281 : S1.1 0 28 = i32 (-1) := (hA.1 28 (by omega)).trans h28
  refine x_istore_n dX11_plain_4 rfl ?_
  refine x_iload_n dX11_plain_5 rfl ?_
  refine x_ic _ ic_m1 dX11_plain_6 ?_
  refine x_icmp_ne 19 dX11_plain_7 rfl (fun c7 => ?_) (fun c7 => ?_)
  · refine x_iload_n dX11_plain_19 rfl ?_
    refine x_if_eqB 32 dX11_plain_20 rfl (fun c20 => ?_) (fun c20 => ?_)
    · have hn : ¬ L = 100 := by rw [c20] at hb; exact of_decide_eq_false hb.symm
      have hf2 : fig tx 0 9 (sk tx p) = false := by unfold flo fhi at hf; rw [if_neg hn, if_neg hn] at hf; simpa using hf
      refine x_aload_n dX11_plain_32 rfl ?_
      refine x_ic _ ic_0 dX11_plain_33 ?_
      refine x_bi _ bi_9 dX11_plain_34 ?_
      refine x_v2 (N := mX11_figure) dX11_plain_36 ml_X11_262 nv_X11_figure rfl rfl (k_figure_bad S1 tx (sk tx p) hq hT1 hA.2.2 h281 0 9 (by omega) (by omega) hf2) ?_
      rintro _ S2 ⟨⟨v, rfl⟩, hA2⟩
      refine x_iretI dX11_plain_39 rfl ?_
      exact ⟨⟨_, rfl⟩, hA.fl hA2⟩
    · have hn : L = 100 := by rw [c20] at hb; exact of_decide_eq_true hb.symm
      have hf2 : fig tx 2 4 (sk tx p) = false := by unfold flo fhi at hf; rw [if_pos hn, if_pos hn] at hf; simpa using hf
      refine x_aload_n dX11_plain_23 rfl ?_
      refine x_ic _ ic_2 dX11_plain_24 ?_
      refine x_ic _ ic_4 dX11_plain_25 ?_
      refine x_v2 (N := mX11_figure) dX11_plain_26 ml_X11_262 nv_X11_figure rfl rfl (k_figure_bad S1 tx (sk tx p) hq hT1 hA.2.2 h281 2 4 (by omega) (by omega) hf2) ?_
      rintro _ S2 ⟨⟨v, rfl⟩, hA2⟩
      refine x_goto 39 dX11_plain_29 rfl ?_
      refine x_iretI dX11_plain_39 rfl ?_
      exact ⟨⟨_, rfl⟩, hA.fl hA2⟩
  · rw [hv_no hT1] at c7
    refine x_aload_n dX11_plain_10 rfl ?_
    refine x_ic _ ic_0 dX11_plain_11 ?_
    refine x_ic _ ic_m1 dX11_plain_12 ?_
    refine x_v2 (N := mX11_figure) dX11_plain_13 ml_X11_262 nv_X11_figure rfl rfl (k_figure_end S1 tx (sk tx p) hq hT1 hA.2.2 h281 c7 _ _ (fun z => by rw [nI_i32, i32_le (by omega) (by omega)] at z; omega)) ?_
    rintro _ S2 ⟨⟨v, rfl⟩, hA2⟩
    refine x_goto 39 dX11_plain_16 rfl ?_
    refine x_iretI dX11_plain_39 rfl ?_
    exact ⟨⟨_, rfl⟩, hA.fl hA2⟩
def nv (L d : Nat) : Int32 := if cnt L d = 0 then i32 (-1) else nI (cnt L d)
theorem nv_p {L d : Nat} (h : L = 112) (hd : 2 ≤ d) : nv L d = nI d := by
  unfold nv
  rw [show cnt L d = d by unfold cnt; rw [if_pos h], if_neg (by omega)]
theorem nv_s {L d : Nat} (h : L = 115) : nv L d = nI 2 := by
  unfold nv
  rw [show cnt L d = 2 by unfold cnt; rw [if_neg (by omega), if_pos h], if_neg (by omega)]
theorem nv_1 {L d : Nat} (h : L = 100 ∨ L = 116 ∨ L = 120 ∨ L = 109) : nv L d = nI 1 := by
  unfold nv
  rw [show cnt L d = 1 by unfold cnt; rw [if_neg (by omega), if_neg (by omega), if_pos h], if_neg (by omega)]
theorem nv_0 {L d : Nat} (h : ¬ (L = 112 ∨ L = 115 ∨ L = 100 ∨ L = 116 ∨ L = 120 ∨ L = 109)) : nv L d = i32 (-1) := by
  unfold nv
  rw [show cnt L d = 0 by unfold cnt; rw [if_neg (by omega), if_neg (by omega), if_neg (by omega)], if_pos rfl]
set_option maxRecDepth 100000 in
set_option maxHeartbeats 4000000 in
theorem k_numbersOf (S : amS) (L d : Nat) (hL : L ≤ 200) (hd : 2 ≤ d ∧ d ≤ 4) : X shM mX11_numbersOf 0 [.int (nI L), .int (nI d)] [] S (fun r S' => r = some (.int (nv L d)) ∧ S' = S) := by
  refine x_iload_n dX11_numbersOf_0 rfl ?_
  refine x_bi _ bi_112 dX11_numbersOf_1 ?_
  refine x_icmp_neN 10 dX11_numbersOf_3 rfl (by omega) (by omega) (fun c3 => ?_) (fun c3 => ?_)
  · refine x_iload_n dX11_numbersOf_10 rfl ?_
    refine x_bi _ bi_115 dX11_numbersOf_11 ?_
    refine x_icmp_neN 20 dX11_numbersOf_13 rfl (by omega) (by omega) (fun c13 => ?_) (fun c13 => ?_)
    · refine x_iload_n dX11_numbersOf_20 rfl ?_
      refine x_bi _ bi_100 dX11_numbersOf_21 ?_
      refine x_icmp_eqN 44 dX11_numbersOf_23 rfl (by omega) (by omega) (fun c23 => ?_) (fun c23 => ?_)
      · refine x_ic _ ic_1 dX11_numbersOf_44 ?_
        refine x_goto 49 dX11_numbersOf_45 rfl ?_
        refine x_iretI dX11_numbersOf_49 rfl ?_
        exact ⟨by rw [nv_1 (Or.inl c23)], rfl⟩
      · refine x_iload_n dX11_numbersOf_26 rfl ?_
        refine x_bi _ bi_116 dX11_numbersOf_27 ?_
        refine x_icmp_eqN 44 dX11_numbersOf_29 rfl (by omega) (by omega) (fun c29 => ?_) (fun c29 => ?_)
        · refine x_ic _ ic_1 dX11_numbersOf_44 ?_
          refine x_goto 49 dX11_numbersOf_45 rfl ?_
          refine x_iretI dX11_numbersOf_49 rfl ?_
          exact ⟨by rw [nv_1 (Or.inr (Or.inl c29))], rfl⟩
        · refine x_iload_n dX11_numbersOf_32 rfl ?_
          refine x_bi _ bi_120 dX11_numbersOf_33 ?_
          refine x_icmp_eqN 44 dX11_numbersOf_35 rfl (by omega) (by omega) (fun c35 => ?_) (fun c35 => ?_)
          · refine x_ic _ ic_1 dX11_numbersOf_44 ?_
            refine x_goto 49 dX11_numbersOf_45 rfl ?_
            refine x_iretI dX11_numbersOf_49 rfl ?_
            exact ⟨by rw [nv_1 (Or.inr (Or.inr (Or.inl c35)))], rfl⟩
          · refine x_iload_n dX11_numbersOf_38 rfl ?_
            refine x_bi _ bi_109 dX11_numbersOf_39 ?_
            refine x_icmp_neN 48 dX11_numbersOf_41 rfl (by omega) (by omega) (fun c41 => ?_) (fun c41 => ?_)
            · refine x_ic _ ic_m1 dX11_numbersOf_48 ?_
              refine x_iretI dX11_numbersOf_49 rfl ?_
              exact ⟨by rw [nv_0 (by omega)], rfl⟩
            · refine x_ic _ ic_1 dX11_numbersOf_44 ?_
              refine x_goto 49 dX11_numbersOf_45 rfl ?_
              refine x_iretI dX11_numbersOf_49 rfl ?_
              exact ⟨by rw [nv_1 (Or.inr (Or.inr (Or.inr c41)))], rfl⟩
    · refine x_ic _ ic_2 dX11_numbersOf_16 ?_
      refine x_goto 49 dX11_numbersOf_17 rfl ?_
      refine x_iretI dX11_numbersOf_49 rfl ?_
      exact ⟨by rw [nv_s c13], rfl⟩
  · refine x_iload_n dX11_numbersOf_6 rfl ?_
    refine x_goto 49 dX11_numbersOf_7 rfl ?_
    refine x_iretI dX11_numbersOf_49 rfl ?_
    exact ⟨by rw [nv_p c3 hd.1], rfl⟩
