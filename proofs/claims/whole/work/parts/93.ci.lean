/-! CONSTRUCTORS: the parts of both -/
def mX0_init : amM := (yX0_init, cX0_init, 3, none, 2, 42)
theorem nvc_X0 : ct_NV mX0_init 2 := ⟨rfl, rfl, (lm_t1 _ (List.mem_of_getElem? (i := 235) rfl)), (lm_t1 _ (List.mem_of_getElem? (i := 11) rfl)), ⟨pn_X0.2.1, pn_X0.2.2, by decide +kernel⟩, (lm_t1 _ (List.mem_of_getElem? (i := 234) rfl))⟩
theorem df_X0 : ∀ j, j < 6 → defaultValue (tyX0 j) = vp_V [.null, .null, .null, .null, .null, .int 0] j := fun j hj => by rcases (show j = 0 ∨ j = 1 ∨ j = 2 ∨ j = 3 ∨ j = 4 ∨ j = 5 by omega) with rfl | rfl | rfl | rfl | rfl | rfl <;> rfl
def mX1_init : amM := (yX1_init, cX1_init, 1, none, 1, 20)
theorem nvc_X1 : ct_NV mX1_init 0 := ⟨rfl, rfl, (lm_t1 _ (List.mem_of_getElem? (i := 29) rfl)), (lm_t1 _ (List.mem_of_getElem? (i := 2) rfl)), ⟨pn_X1.2.1, pn_X1.2.2, by decide +kernel⟩, (lm_t1 _ (List.mem_of_getElem? (i := 28) rfl))⟩
theorem df_X1 : ∀ j, j < 4 → defaultValue (tyX1 j) = vp_V [.null, .int 0, .int 0, .int 0] j := fun j hj => by rcases (show j = 0 ∨ j = 1 ∨ j = 2 ∨ j = 3 by omega) with rfl | rfl | rfl | rfl <;> rfl
def mX2_init : amM := (yX2_init, cX2_init, 3, none, 2, 40)
theorem nvc_X2 : ct_NV mX2_init 2 := ⟨rfl, rfl, (lm_t1 _ (List.mem_of_getElem? (i := 214) rfl)), (lm_t1 _ (List.mem_of_getElem? (i := 10) rfl)), ⟨pn_X2.2.1, pn_X2.2.2, by decide +kernel⟩, (lm_t1 _ (List.mem_of_getElem? (i := 213) rfl))⟩
theorem df_X2 : ∀ j, j < 4 → defaultValue (tyX2 j) = vp_V [.null, .null, .null, .null] j := fun j hj => by rcases (show j = 0 ∨ j = 1 ∨ j = 2 ∨ j = 3 by omega) with rfl | rfl | rfl | rfl <;> rfl
def mX3_init : amM := (yX3_init, cX3_init, 2, none, 2, 40)
theorem nvc_X3 : ct_NV mX3_init 0 := ⟨rfl, rfl, (lm_t1 _ (List.mem_of_getElem? (i := 142) rfl)), (lm_t1 _ (List.mem_of_getElem? (i := 7) rfl)), ⟨pn_X3.2.1, pn_X3.2.2, by decide +kernel⟩, (lm_t1 _ (List.mem_of_getElem? (i := 141) rfl))⟩
theorem df_X3 : ∀ j, j < 3 → defaultValue (tyX3 j) = vp_V [.null, .int 0, .int 0] j := fun j hj => by rcases (show j = 0 ∨ j = 1 ∨ j = 2 by omega) with rfl | rfl | rfl <;> rfl
def mX4_init : amM := (yX4_init, cX4_init, 2, none, 1, 21)
theorem nvc_X4 : ct_NV mX4_init 1 := ⟨rfl, rfl, (lm_t1 _ (List.mem_of_getElem? (i := 89) rfl)), (lm_t1 _ (List.mem_of_getElem? (i := 5) rfl)), ⟨pn_X4.2.1, pn_X4.2.2, by decide +kernel⟩, (lm_t1 _ (List.mem_of_getElem? (i := 88) rfl))⟩
theorem df_X4 : ∀ j, j < 2 → defaultValue (tyX4 j) = vp_V [.null, .int 0] j := fun j hj => by rcases (show j = 0 ∨ j = 1 by omega) with rfl | rfl <;> rfl
def mX5_init : amM := (yX5_init, cX5_init, 1, none, 1, 20)
theorem nvc_X5 : ct_NV mX5_init 0 := ⟨rfl, rfl, (lm_t1 _ (List.mem_of_getElem? (i := 69) rfl)), (lm_t1 _ (List.mem_of_getElem? (i := 4) rfl)), ⟨pn_X5.2.1, pn_X5.2.2, by decide +kernel⟩, (lm_t1 _ (List.mem_of_getElem? (i := 68) rfl))⟩
theorem df_X5 : ∀ j, j < 4 → defaultValue (tyX5 j) = vp_V [.null, .int 0, .int 0, .int 0] j := fun j hj => by rcases (show j = 0 ∨ j = 1 ∨ j = 2 ∨ j = 3 by omega) with rfl | rfl | rfl | rfl <;> rfl
def mX6_init : amM := (yX6_init, cX6_init, 2, none, 2, 42)
theorem nvc_X6 : ct_NV mX6_init 1 := ⟨rfl, rfl, (lm_t1 _ (List.mem_of_getElem? (i := 63) rfl)), (lm_t1 _ (List.mem_of_getElem? (i := 3) rfl)), ⟨pn_X6.2.1, pn_X6.2.2, by decide +kernel⟩, (lm_t1 _ (List.mem_of_getElem? (i := 62) rfl))⟩
theorem df_X6 : ∀ j, j < 8 → defaultValue (tyX6 j) = vp_V [.null, .null, .null, .null, .null, .null, .null, .int 0] j := fun j hj => by rcases (show j = 0 ∨ j = 1 ∨ j = 2 ∨ j = 3 ∨ j = 4 ∨ j = 5 ∨ j = 6 ∨ j = 7 by omega) with rfl | rfl | rfl | rfl | rfl | rfl | rfl | rfl <;> rfl
def mX7_init : amM := (yX7_init, cX7_init, 3, none, 1, 20)
theorem nvc_X7 : ct_NV mX7_init 2 := ⟨rfl, rfl, (lm_t1 _ (List.mem_of_getElem? (i := 189) rfl)), (lm_t1 _ (List.mem_of_getElem? (i := 9) rfl)), ⟨pn_X7.2.1, pn_X7.2.2, by decide +kernel⟩, (lm_t1 _ (List.mem_of_getElem? (i := 188) rfl))⟩
theorem df_X7 : ∀ j, j < 6 → defaultValue (tyX7 j) = vp_V [.null, .null, .null, .null, .null, .int 0] j := fun j hj => by rcases (show j = 0 ∨ j = 1 ∨ j = 2 ∨ j = 3 ∨ j = 4 ∨ j = 5 by omega) with rfl | rfl | rfl | rfl | rfl | rfl <;> rfl
def mX8_init : amM := (yX8_init, cX8_init, 3, none, 2, 42)
theorem nvc_X8 : ct_NV mX8_init 2 := ⟨rfl, rfl, (lm_t1 _ (List.mem_of_getElem? (i := 162) rfl)), (lm_t1 _ (List.mem_of_getElem? (i := 8) rfl)), ⟨pn_X8.2.1, pn_X8.2.2, by decide +kernel⟩, (lm_t1 _ (List.mem_of_getElem? (i := 161) rfl))⟩
theorem df_X8 : ∀ j, j < 6 → defaultValue (tyX8 j) = vp_V [.null, .null, .null, .null, .null, .int 0] j := fun j hj => by rcases (show j = 0 ∨ j = 1 ∨ j = 2 ∨ j = 3 ∨ j = 4 ∨ j = 5 by omega) with rfl | rfl | rfl | rfl | rfl | rfl <;> rfl
def mX9_init : amM := (yX9_init, cX9_init, 1, none, 1, 20)
theorem nvc_X9 : ct_NV mX9_init 0 := ⟨rfl, rfl, (lm_t2 _ (List.mem_of_getElem? (i := 22) rfl)), (lm_t1 _ (List.mem_of_getElem? (i := 12) rfl)), ⟨pn_X9.2.1, pn_X9.2.2, by decide +kernel⟩, (lm_t2 _ (List.mem_of_getElem? (i := 21) rfl))⟩
theorem df_X9 : ∀ j, j < 6 → defaultValue (tyX9 j) = vp_V [.null, .null, .null, .int 0, .int 0, .int 0] j := fun j hj => by rcases (show j = 0 ∨ j = 1 ∨ j = 2 ∨ j = 3 ∨ j = 4 ∨ j = 5 by omega) with rfl | rfl | rfl | rfl | rfl | rfl <;> rfl
def mX10_init : amM := (yX10_init, cX10_init, 3, none, 3, 64)
theorem nvc_X10 : ct_NV mX10_init 0 := ⟨rfl, rfl, (lm_t1 _ (List.mem_of_getElem? (i := 21) rfl)), (lm_t1 _ (List.mem_of_getElem? (i := 1) rfl)), ⟨pn_X10.2.1, pn_X10.2.2, by decide +kernel⟩, (lm_t1 _ (List.mem_of_getElem? (i := 20) rfl))⟩
theorem df_X10 : ∀ j, j < 14 → defaultValue (tyX10 j) = vp_V [.null, .null, .null, .null, .null, .null, .null, .null, .null, .int 0, .int 0, .int 0, .int 0, .int 0] j := fun j hj => by rcases (show j = 0 ∨ j = 1 ∨ j = 2 ∨ j = 3 ∨ j = 4 ∨ j = 5 ∨ j = 6 ∨ j = 7 ∨ j = 8 ∨ j = 9 ∨ j = 10 ∨ j = 11 ∨ j = 12 ∨ j = 13 by omega) with rfl | rfl | rfl | rfl | rfl | rfl | rfl | rfl | rfl | rfl | rfl | rfl | rfl | rfl <;> rfl
def mX11_init : amM := (yX11_init, cX11_init, 1, none, 1, 20)
theorem nvc_X11 : ct_NV mX11_init 0 := ⟨rfl, rfl, (lm_t4 _ (List.mem_of_getElem? (i := 114) rfl)), (lm_t1 _ (List.mem_of_getElem? (i := 13) rfl)), ⟨pn_X11.2.1, pn_X11.2.2, by decide +kernel⟩, (lm_t4 _ (List.mem_of_getElem? (i := 113) rfl))⟩
theorem df_X11 : ∀ j, j < 33 → defaultValue (tyX11 j) = vp_V [.null, .null, .null, .int 0, .null, .null, .int 0, .int 0, .int 0, .int 0, .null, .null, .int 0, .null, .null, .null, .null, .null, .int 0, .null, .null, .null, .null, .null, .null, .null, .null, .int 0, .int 0, .int 0, .null, .null, .long 0] j := fun j hj => by rcases (show j = 0 ∨ j = 1 ∨ j = 2 ∨ j = 3 ∨ j = 4 ∨ j = 5 ∨ j = 6 ∨ j = 7 ∨ j = 8 ∨ j = 9 ∨ j = 10 ∨ j = 11 ∨ j = 12 ∨ j = 13 ∨ j = 14 ∨ j = 15 ∨ j = 16 ∨ j = 17 ∨ j = 18 ∨ j = 19 ∨ j = 20 ∨ j = 21 ∨ j = 22 ∨ j = 23 ∨ j = 24 ∨ j = 25 ∨ j = 26 ∨ j = 27 ∨ j = 28 ∨ j = 29 ∨ j = 30 ∨ j = 31 ∨ j = 32 by omega) with rfl | rfl | rfl | rfl | rfl | rfl | rfl | rfl | rfl | rfl | rfl | rfl | rfl | rfl | rfl | rfl | rfl | rfl | rfl | rfl | rfl | rfl | rfl | rfl | rfl | rfl | rfl | rfl | rfl | rfl | rfl | rfl | rfl <;> rfl
section YC
variable {M : amM} {D : va_G} {A : Nat → Prop} {NC NS : Nat} {Bk : va_W → ctK → Prop} {pc : Nat} {loc : List (Nat × Value)} {st : List Value} {tys : ctK} {k n : Nat}
theorem y_call0 {N : amM} {idx q ci nA mc ms : Nat} {fs : List Value} {Bq : va_W → ctK → Prop} {c0 : Nat × va_E} {B : va_W} (hd : decode M.2.1 pc = .ok (.invokespecial idx, 3)) (hM : ∀ l : Launch, ctM l N D q ci fs [] mc ms Bq) (hN : ct_NV N nA) (hl : Cond.methodLink M.1.cls idx N.1 ∈ lw_tbl ∨ ∃ host, Cond.methodLinkNest M.1.cls idx N.1 host ∈ lw_tbl) (hn : 0 = nA) (h1 : Nat.ble (N.2.2.2.2.1 + 1) M.2.2.2.2.1 = true) (h2 : Nat.ble (8 + (N.2.2.1 + 11) + N.2.2.2.2.2) M.2.2.2.2.2 = true) (h3 : (st.map fun v => v.category).sum ≤ 8) (h4 : k + mc ≤ NC) (h5 : n + ms ≤ NS) (kk : ∀ (blk : va_W) (tys1 : ctK), Bq blk tys1 → Y M D A NC NS Bk (pc + 3) loc st (c0 :: (ctA B blk)) (ctB tys tys1) (k + mc) (n + ms)) : Y M D A NC NS Bk pc loc (.ref q :: st) (c0 :: (ctA B [(q, .inr (ci, fs))])) tys k n := y_call [] hd hM hN hl hn h1 h2 h3 h4 h5 kk
theorem y_call1 {N : amM} {idx q ci nA mc ms : Nat} {fs : List Value} {a0 : Value} {Bq : va_W → ctK → Prop} {c0 : Nat × va_E} {B : va_W} (hd : decode M.2.1 pc = .ok (.invokespecial idx, 3)) (hM : ∀ l : Launch, ctM l N D q ci fs [a0] mc ms Bq) (hN : ct_NV N nA) (hl : Cond.methodLink M.1.cls idx N.1 ∈ lw_tbl ∨ ∃ host, Cond.methodLinkNest M.1.cls idx N.1 host ∈ lw_tbl) (hn : 1 = nA) (h1 : Nat.ble (N.2.2.2.2.1 + 1) M.2.2.2.2.1 = true) (h2 : Nat.ble (8 + (N.2.2.1 + 11) + N.2.2.2.2.2) M.2.2.2.2.2 = true) (h3 : (st.map fun v => v.category).sum ≤ 8) (h4 : k + mc ≤ NC) (h5 : n + ms ≤ NS) (kk : ∀ (blk : va_W) (tys1 : ctK), Bq blk tys1 → Y M D A NC NS Bk (pc + 3) loc st (c0 :: (ctA B blk)) (ctB tys tys1) (k + mc) (n + ms)) : Y M D A NC NS Bk pc loc (a0 :: .ref q :: st) (c0 :: (ctA B [(q, .inr (ci, fs))])) tys k n := y_call [a0] hd hM hN hl hn h1 h2 h3 h4 h5 kk
theorem y_call2 {N : amM} {idx q ci nA mc ms : Nat} {fs : List Value} {a0 a1 : Value} {Bq : va_W → ctK → Prop} {c0 : Nat × va_E} {B : va_W} (hd : decode M.2.1 pc = .ok (.invokespecial idx, 3)) (hM : ∀ l : Launch, ctM l N D q ci fs [a0, a1] mc ms Bq) (hN : ct_NV N nA) (hl : Cond.methodLink M.1.cls idx N.1 ∈ lw_tbl ∨ ∃ host, Cond.methodLinkNest M.1.cls idx N.1 host ∈ lw_tbl) (hn : 2 = nA) (h1 : Nat.ble (N.2.2.2.2.1 + 1) M.2.2.2.2.1 = true) (h2 : Nat.ble (8 + (N.2.2.1 + 11) + N.2.2.2.2.2) M.2.2.2.2.2 = true) (h3 : (st.map fun v => v.category).sum ≤ 8) (h4 : k + mc ≤ NC) (h5 : n + ms ≤ NS) (kk : ∀ (blk : va_W) (tys1 : ctK), Bq blk tys1 → Y M D A NC NS Bk (pc + 3) loc st (c0 :: (ctA B blk)) (ctB tys tys1) (k + mc) (n + ms)) : Y M D A NC NS Bk pc loc (a1 :: a0 :: .ref q :: st) (c0 :: (ctA B [(q, .inr (ci, fs))])) tys k n := y_call [a0, a1] hd hM hN hl hn h1 h2 h3 h4 h5 kk
end YC
def bk_X4 (n h0 : Nat) (ws : va_W) (tys : ctK) : Prop := ∃ (q0 : Nat) (c0 : ClassId), ws = (h0, .inr (4, [.ref q0, .int 0])) :: (ctA [] [(q0, .inl (c0, n, .inl (fun _ => 0)))]) ∧ tys = (ctB [] [(c0, .int)])
theorem ci_X4 (D : va_G) (h0 n : Nat) (hn : n < 1000) (l : Launch) : ctM l mX4_init D h0 4 [.null, .int 0] [.int (nI n)] 1 n (bk_X4 n h0) := by
  refine ct_met pn_X4.1 rfl rfl (Nat.le_of_ble_eq_true rfl) (fun A => ?_) l
  show Y mX4_init D A _ _ _ 0 [(0, .ref h0), (1, .int (nI n))] [] [(h0, .inr (4, [.null, .int 0]))] [] 0 0
  refine y_aload 0 dX4_init_0 rfl ?_
  refine y_obj dX4_init_1 (lm_t1 _ (List.mem_of_getElem? (i := 90) rfl)) rfl rfl ?_
  refine y_aload 0 dX4_init_4 rfl ?_
  refine y_iload 1 dX4_init_5 rfl ?_
  refine y_iconst 0 dX4_init_6 (by decide +kernel) ?_
  refine y_max (nI n) dX4_init_7 (lm_t1 _ (List.mem_of_getElem? (i := 91) rfl)) rfl rfl (Nat.le_of_ble_eq_true rfl) (Nat.zero_le _) (Nat.le_of_ble_eq_true rfl) (if_neg (nI_pos (by omega))) ?_
  refine y_newa .int n (n, .inl (fun _ => 0)) dX4_init_10 (lm_t1 _ (List.mem_of_getElem? (i := 58) rfl)) rfl (fun _ => rfl) (nI_pos (by omega)) (nI_clamp (by omega)) (by show n * 4 ≤ 536870912; omega) (Nat.le_of_ble_eq_true rfl) (by omega) (fun q0 c0 => ?_)
  refine y_putF (ci := 4) [.ref q0, .int 0] 0 dX4_init_12 in_X4 tyX4_ok nmX4 rfl (by decide) (lm_t1 _ (List.mem_of_getElem? (i := 94) rfl)) rfl rfl rfl rfl rfl rfl rfl ?_
  exact y_ret dX4_init_15 (Nat.le_of_ble_eq_true rfl) (by omega) ⟨q0, c0, rfl, rfl⟩
def bk_X1 (h0 : Nat) (ws : va_W) (tys : ctK) : Prop := ∃ (q0 : Nat) (c0 : ClassId), ws = (h0, .inr (1, [.ref q0, .int (nI 3), .int 0, .int 0])) :: (ctA [] [(q0, .inl (c0, 36, .inl (fun _ => 0)))]) ∧ tys = (ctB [] [(c0, .int)])
theorem ci_X1 (D : va_G) (h0 : Nat) (l : Launch) : ctM l mX1_init D h0 1 [.null, .int 0, .int 0, .int 0] [] 1 36 (bk_X1 h0) := by
  refine ct_met pn_X1.1 rfl rfl (Nat.le_of_ble_eq_true rfl) (fun A => ?_) l
  show Y mX1_init D A _ _ _ 0 [(0, .ref h0)] [] [(h0, .inr (1, [.null, .int 0, .int 0, .int 0]))] [] 0 0
  refine y_aload 0 dX1_init_0 rfl ?_
  refine y_obj dX1_init_1 (lm_t1 _ (List.mem_of_getElem? (i := 30) rfl)) rfl rfl ?_
  refine y_aload 0 dX1_init_4 rfl ?_
  refine y_bipush (nI 36) dX1_init_5 (by decide +kernel) ?_
  refine y_newa .int 36 (36, .inl (fun _ => 0)) dX1_init_7 (lm_t1 _ (List.mem_of_getElem? (i := 58) rfl)) rfl (fun _ => rfl) (by decide +kernel) (by decide +kernel) (Nat.le_of_ble_eq_true rfl) (Nat.le_of_ble_eq_true rfl) (Nat.le_of_ble_eq_true rfl) (fun q0 c0 => ?_)
  refine y_putF (ci := 1) [.ref q0, .int 0, .int 0, .int 0] 0 dX1_init_9 in_X1 tyX1_ok nmX1 rfl (by decide) (lm_t1 _ (List.mem_of_getElem? (i := 31) rfl)) rfl rfl rfl rfl rfl rfl rfl ?_
  refine y_aload 0 dX1_init_12 rfl ?_
  refine y_iconst (nI 3) dX1_init_13 (by decide +kernel) ?_
  refine y_put (ci := 1) [.ref q0, .int (nI 3), .int 0, .int 0] 1 dX1_init_14 in_X1 tyX1_ok nmX1 rfl (by decide) (lm_t1 _ (List.mem_of_getElem? (i := 32) rfl)) rfl rfl rfl rfl rfl rfl ?_
  exact y_ret dX1_init_17 (Nat.le_of_ble_eq_true rfl) (Nat.le_of_ble_eq_true rfl) ⟨q0, c0, rfl, rfl⟩
def bk_X5 (h0 : Nat) (ws : va_W) (tys : ctK) : Prop := ∃ (q0 : Nat) (c0 : ClassId), ws = (h0, .inr (5, [.ref q0, .int 0, .int 0, .int 0])) :: (ctA [] [(q0, .inl (c0, 45, .inr (.inl (fun _ => 0))))]) ∧ tys = (ctB [] [(c0, .long)])
theorem ci_X5 (D : va_G) (h0 : Nat) (l : Launch) : ctM l mX5_init D h0 5 [.null, .int 0, .int 0, .int 0] [] 1 45 (bk_X5 h0) := by
  refine ct_met pn_X5.1 rfl rfl (Nat.le_of_ble_eq_true rfl) (fun A => ?_) l
  show Y mX5_init D A _ _ _ 0 [(0, .ref h0)] [] [(h0, .inr (5, [.null, .int 0, .int 0, .int 0]))] [] 0 0
  refine y_aload 0 dX5_init_0 rfl ?_
  refine y_obj dX5_init_1 (lm_t1 _ (List.mem_of_getElem? (i := 70) rfl)) rfl rfl ?_
  refine y_aload 0 dX5_init_4 rfl ?_
  refine y_bipush (nI 45) dX5_init_5 (by decide +kernel) ?_
  refine y_newa .long 45 (45, .inr (.inl (fun _ => 0))) dX5_init_7 (lm_t1 _ (List.mem_of_getElem? (i := 84) rfl)) rfl (fun _ => rfl) (by decide +kernel) (by decide +kernel) (Nat.le_of_ble_eq_true rfl) (Nat.le_of_ble_eq_true rfl) (Nat.le_of_ble_eq_true rfl) (fun q0 c0 => ?_)
  refine y_putF (ci := 5) [.ref q0, .int 0, .int 0, .int 0] 0 dX5_init_9 in_X5 tyX5_ok nmX5 rfl (by decide) (lm_t1 _ (List.mem_of_getElem? (i := 71) rfl)) rfl rfl rfl rfl rfl rfl rfl ?_
  exact y_ret dX5_init_12 (Nat.le_of_ble_eq_true rfl) (Nat.le_of_ble_eq_true rfl) ⟨q0, c0, rfl, rfl⟩
def bk_X9 (h0 : Nat) (ws : va_W) (tys : ctK) : Prop := ∃ (q0 : Nat) (c0 : ClassId) (q1 : Nat) (c1 : ClassId) (q2 : Nat) (c2 : ClassId), ws = (h0, .inr (9, [.ref q0, .ref q1, .ref q2, .int 0, .int 0, .int 0])) :: (ctA (ctA (ctA [] [(q0, .inl (c0, 100, .inl (fun _ => 0)))]) [(q1, .inl (c1, 34, .inl (fun _ => 0)))]) [(q2, .inl (c2, 136, .inl (fun _ => 0)))]) ∧ tys = (ctB (ctB (ctB [] [(c0, .byte)]) [(c1, .int)]) [(c2, .int)])
theorem ci_X9 (D : va_G) (h0 : Nat) (l : Launch) : ctM l mX9_init D h0 9 [.null, .null, .null, .int 0, .int 0, .int 0] [] 3 270 (bk_X9 h0) := by
  refine ct_met pn_X9.1 rfl rfl (Nat.le_of_ble_eq_true rfl) (fun A => ?_) l
  show Y mX9_init D A _ _ _ 0 [(0, .ref h0)] [] [(h0, .inr (9, [.null, .null, .null, .int 0, .int 0, .int 0]))] [] 0 0
  refine y_aload 0 dX9_init_0 rfl ?_
  refine y_obj dX9_init_1 (lm_t2 _ (List.mem_of_getElem? (i := 23) rfl)) rfl rfl ?_
  refine y_aload 0 dX9_init_4 rfl ?_
  refine y_bipush (nI 100) dX9_init_5 (by decide +kernel) ?_
  refine y_newa .byte 100 (100, .inl (fun _ => 0)) dX9_init_7 (lm_t2 _ (List.mem_of_getElem? (i := 45) rfl)) rfl (fun _ => rfl) (by decide +kernel) (by decide +kernel) (Nat.le_of_ble_eq_true rfl) (Nat.le_of_ble_eq_true rfl) (Nat.le_of_ble_eq_true rfl) (fun q0 c0 => ?_)
  refine y_putF (ci := 9) [.ref q0, .null, .null, .int 0, .int 0, .int 0] 0 dX9_init_9 in_X9 tyX9_ok nmX9 rfl (by decide) (lm_t2 _ (List.mem_of_getElem? (i := 24) rfl)) rfl rfl rfl rfl rfl rfl rfl ?_
  refine y_aload 0 dX9_init_12 rfl ?_
  refine y_bipush (nI 34) dX9_init_13 (by decide +kernel) ?_
  refine y_newa .int 34 (34, .inl (fun _ => 0)) dX9_init_15 (lm_t1 _ (List.mem_of_getElem? (i := 58) rfl)) rfl (fun _ => rfl) (by decide +kernel) (by decide +kernel) (Nat.le_of_ble_eq_true rfl) (Nat.le_of_ble_eq_true rfl) (Nat.le_of_ble_eq_true rfl) (fun q1 c1 => ?_)
  refine y_putF (ci := 9) [.ref q0, .ref q1, .null, .int 0, .int 0, .int 0] 1 dX9_init_17 in_X9 tyX9_ok nmX9 rfl (by decide) (lm_t2 _ (List.mem_of_getElem? (i := 25) rfl)) rfl rfl rfl rfl rfl rfl rfl ?_
  refine y_aload 0 dX9_init_20 rfl ?_
  refine y_sipush (nI 136) dX9_init_21 (by decide +kernel) ?_
  refine y_newa .int 136 (136, .inl (fun _ => 0)) dX9_init_24 (lm_t1 _ (List.mem_of_getElem? (i := 58) rfl)) rfl (fun _ => rfl) (by decide +kernel) (by decide +kernel) (Nat.le_of_ble_eq_true rfl) (Nat.le_of_ble_eq_true rfl) (Nat.le_of_ble_eq_true rfl) (fun q2 c2 => ?_)
  refine y_putF (ci := 9) [.ref q0, .ref q1, .ref q2, .int 0, .int 0, .int 0] 2 dX9_init_26 in_X9 tyX9_ok nmX9 rfl (by decide) (lm_t2 _ (List.mem_of_getElem? (i := 26) rfl)) rfl rfl rfl rfl rfl rfl rfl ?_
  exact y_ret dX9_init_29 (Nat.le_of_ble_eq_true rfl) (Nat.le_of_ble_eq_true rfl) ⟨q0, c0, q1, c1, q2, c2, rfl, rfl⟩
def bk_X6 (h0 pl : Nat) (ws : va_W) (tys : ctK) : Prop := ∃ (q0 : Nat) (b1 : va_W) (t1 : ctK) (q2 : Nat) (c2 : ClassId) (q3 : Nat) (c3 : ClassId) (q4 : Nat) (b5 : va_W) (t5 : ctK) (q6 : Nat) (b7 : va_W) (t7 : ctK) (q8 : Nat) (c8 : ClassId), ws = (h0, .inr (6, [.ref pl, .ref q0, .ref q2, .ref q3, .ref q4, .ref q6, .ref q8, .int (i32 (-1))])) :: (ctA (ctA (ctA (ctA (ctA (ctA [] b1) [(q2, .inl (c2, 512, .inl (fun _ => 0)))]) [(q3, .inl (c3, 512, .inl (fun _ => 0)))]) b5) b7) [(q8, .inl (c8, 9, .inl (fun _ => 0)))]) ∧ tys = (ctB (ctB (ctB (ctB (ctB (ctB [] t1) [(c2, .int)]) [(c3, .boolean)]) t5) t7) [(c8, .int)]) ∧ bk_X5 q0 b1 t1 ∧ bk_X4 126 q4 b5 t5 ∧ bk_X4 126 q6 b7 t7
theorem ci_X6 (D : va_G) (h0 pl : Nat) (l : Launch) : ctM l mX6_init D h0 6 [.null, .null, .null, .null, .null, .null, .null, .int 0] [.ref pl] 9 1338 (bk_X6 h0 pl) := by
  refine ct_met pn_X6.1 rfl rfl (Nat.le_of_ble_eq_true rfl) (fun A => ?_) l
  show Y mX6_init D A _ _ _ 0 [(0, .ref h0), (1, .ref pl)] [] [(h0, .inr (6, [.null, .null, .null, .null, .null, .null, .null, .int 0]))] [] 0 0
  refine y_aload 0 dX6_init_0 rfl ?_
  refine y_obj dX6_init_1 (lm_t1 _ (List.mem_of_getElem? (i := 64) rfl)) rfl rfl ?_
  refine y_aload 0 dX6_init_4 rfl ?_
  refine y_new (ci := 5) (fs := [.null, .int 0, .int 0, .int 0]) dX6_init_5 in_X5 tyX5_ok (lm_t1 _ (List.mem_of_getElem? (i := 65) rfl)) (lm_t1 _ (List.mem_of_getElem? (i := 66) rfl)) (lm_t1 _ (List.mem_of_getElem? (i := 4) rfl)) rfl df_X5 (Nat.le_of_ble_eq_true rfl) (Nat.le_of_ble_eq_true rfl) (fun q0 => ?_)
  refine y_dup dX6_init_8 ?_
  refine y_call0 dX6_init_9 (fun l => ci_X5 D q0  l) nvc_X5 (Or.inr ⟨_, (lm_t1 _ (List.mem_of_getElem? (i := 67) rfl))⟩) rfl rfl rfl (Nat.le_of_ble_eq_true rfl) (Nat.le_of_ble_eq_true rfl) (Nat.le_of_ble_eq_true rfl) (fun b1 t1 h1 => ?_)
  refine y_putF (ci := 6) [.null, .ref q0, .null, .null, .null, .null, .null, .int 0] 1 dX6_init_12 in_X6 tyX6_ok nmX6 rfl (by decide) (lm_t1 _ (List.mem_of_getElem? (i := 110) rfl)) rfl rfl rfl rfl rfl rfl rfl ?_
  refine y_aload 0 dX6_init_15 rfl ?_
  refine y_sipush (nI 512) dX6_init_16 (by decide +kernel) ?_
  refine y_newa .int 512 (512, .inl (fun _ => 0)) dX6_init_19 (lm_t1 _ (List.mem_of_getElem? (i := 58) rfl)) rfl (fun _ => rfl) (by decide +kernel) (by decide +kernel) (Nat.le_of_ble_eq_true rfl) (Nat.le_of_ble_eq_true rfl) (Nat.le_of_ble_eq_true rfl) (fun q2 c2 => ?_)
  refine y_putF (ci := 6) [.null, .ref q0, .ref q2, .null, .null, .null, .null, .int 0] 2 dX6_init_21 in_X6 tyX6_ok nmX6 rfl (by decide) (lm_t1 _ (List.mem_of_getElem? (i := 111) rfl)) rfl rfl rfl rfl rfl rfl rfl ?_
  refine y_aload 0 dX6_init_24 rfl ?_
  refine y_sipush (nI 512) dX6_init_25 (by decide +kernel) ?_
  refine y_newa .boolean 512 (512, .inl (fun _ => 0)) dX6_init_28 (lm_t1 _ (List.mem_of_getElem? (i := 108) rfl)) rfl (fun _ => rfl) (by decide +kernel) (by decide +kernel) (Nat.le_of_ble_eq_true rfl) (Nat.le_of_ble_eq_true rfl) (Nat.le_of_ble_eq_true rfl) (fun q3 c3 => ?_)
  refine y_putF (ci := 6) [.null, .ref q0, .ref q2, .ref q3, .null, .null, .null, .int 0] 3 dX6_init_30 in_X6 tyX6_ok nmX6 rfl (by decide) (lm_t1 _ (List.mem_of_getElem? (i := 113) rfl)) rfl rfl rfl rfl rfl rfl rfl ?_
  refine y_aload 0 dX6_init_33 rfl ?_
  refine y_new (ci := 4) (fs := [.null, .int 0]) dX6_init_34 in_X4 tyX4_ok (lm_t1 _ (List.mem_of_getElem? (i := 85) rfl)) (lm_t1 _ (List.mem_of_getElem? (i := 86) rfl)) (lm_t1 _ (List.mem_of_getElem? (i := 5) rfl)) rfl df_X4 (Nat.le_of_ble_eq_true rfl) (Nat.le_of_ble_eq_true rfl) (fun q4 => ?_)
  refine y_dup dX6_init_37 ?_
  refine y_bipush (nI 126) dX6_init_38 (by decide +kernel) ?_
  refine y_call1 dX6_init_40 (fun l => ci_X4 D q4 126 (by decide) l) nvc_X4 (Or.inl (lm_t1 _ (List.mem_of_getElem? (i := 87) rfl))) rfl rfl rfl (Nat.le_of_ble_eq_true rfl) (Nat.le_of_ble_eq_true rfl) (Nat.le_of_ble_eq_true rfl) (fun b5 t5 h5 => ?_)
  refine y_putF (ci := 6) [.null, .ref q0, .ref q2, .ref q3, .ref q4, .null, .null, .int 0] 4 dX6_init_43 in_X6 tyX6_ok nmX6 rfl (by decide) (lm_t1 _ (List.mem_of_getElem? (i := 115) rfl)) rfl rfl rfl rfl rfl rfl rfl ?_
  refine y_aload 0 dX6_init_46 rfl ?_
  refine y_new (ci := 4) (fs := [.null, .int 0]) dX6_init_47 in_X4 tyX4_ok (lm_t1 _ (List.mem_of_getElem? (i := 85) rfl)) (lm_t1 _ (List.mem_of_getElem? (i := 86) rfl)) (lm_t1 _ (List.mem_of_getElem? (i := 5) rfl)) rfl df_X4 (Nat.le_of_ble_eq_true rfl) (Nat.le_of_ble_eq_true rfl) (fun q6 => ?_)
  refine y_dup dX6_init_50 ?_
  refine y_bipush (nI 126) dX6_init_51 (by decide +kernel) ?_
  refine y_call1 dX6_init_53 (fun l => ci_X4 D q6 126 (by decide) l) nvc_X4 (Or.inl (lm_t1 _ (List.mem_of_getElem? (i := 87) rfl))) rfl rfl rfl (Nat.le_of_ble_eq_true rfl) (Nat.le_of_ble_eq_true rfl) (Nat.le_of_ble_eq_true rfl) (fun b7 t7 h7 => ?_)
  refine y_putF (ci := 6) [.null, .ref q0, .ref q2, .ref q3, .ref q4, .ref q6, .null, .int 0] 5 dX6_init_56 in_X6 tyX6_ok nmX6 rfl (by decide) (lm_t1 _ (List.mem_of_getElem? (i := 118) rfl)) rfl rfl rfl rfl rfl rfl rfl ?_
  refine y_aload 0 dX6_init_59 rfl ?_
  refine y_bipush (nI 9) dX6_init_60 (by decide +kernel) ?_
  refine y_newa .int 9 (9, .inl (fun _ => 0)) dX6_init_62 (lm_t1 _ (List.mem_of_getElem? (i := 58) rfl)) rfl (fun _ => rfl) (by decide +kernel) (by decide +kernel) (Nat.le_of_ble_eq_true rfl) (Nat.le_of_ble_eq_true rfl) (Nat.le_of_ble_eq_true rfl) (fun q8 c8 => ?_)
  refine y_putF (ci := 6) [.null, .ref q0, .ref q2, .ref q3, .ref q4, .ref q6, .ref q8, .int 0] 6 dX6_init_64 in_X6 tyX6_ok nmX6 rfl (by decide) (lm_t1 _ (List.mem_of_getElem? (i := 119) rfl)) rfl rfl rfl rfl rfl rfl rfl ?_
  refine y_aload 0 dX6_init_67 rfl ?_
  refine y_iconst (i32 (-1)) dX6_init_68 (by decide +kernel) ?_
  refine y_put (ci := 6) [.null, .ref q0, .ref q2, .ref q3, .ref q4, .ref q6, .ref q8, .int (i32 (-1))] 7 dX6_init_69 in_X6 tyX6_ok nmX6 rfl (by decide) (lm_t1 _ (List.mem_of_getElem? (i := 120) rfl)) rfl rfl rfl rfl rfl rfl ?_
  refine y_aload 0 dX6_init_72 rfl ?_
  refine y_aload 1 dX6_init_73 rfl ?_
  refine y_putF (ci := 6) [.ref pl, .ref q0, .ref q2, .ref q3, .ref q4, .ref q6, .ref q8, .int (i32 (-1))] 0 dX6_init_74 in_X6 tyX6_ok nmX6 rfl (by decide) (lm_t1 _ (List.mem_of_getElem? (i := 109) rfl)) rfl rfl rfl rfl rfl rfl rfl ?_
  exact y_ret dX6_init_77 (Nat.le_of_ble_eq_true rfl) (Nat.le_of_ble_eq_true rfl) ⟨q0, b1, t1, q2, c2, q3, c3, q4, b5, t5, q6, b7, t7, q8, c8, rfl, rfl, h1, h5, h7⟩
def bk_X8 (h0 pl mt : Nat) (ws : va_W) (tys : ctK) : Prop := ∃ (q0 : Nat) (c0 : ClassId) (q1 : Nat) (c1 : ClassId) (q2 : Nat) (b3 : va_W) (t3 : ctK), ws = (h0, .inr (8, [.ref pl, .ref mt, .ref q0, .ref q1, .ref q2, .int (i32 (-1))])) :: (ctA (ctA (ctA [] [(q0, .inl (c0, 512, .inl (fun _ => 0)))]) [(q1, .inl (c1, 512, .inl (fun _ => 0)))]) b3) ∧ tys = (ctB (ctB (ctB [] [(c0, .boolean)]) [(c1, .int)]) t3) ∧ bk_X4 186 q2 b3 t3
theorem ci_X8 (D : va_G) (h0 pl mt : Nat) (l : Launch) : ctM l mX8_init D h0 8 [.null, .null, .null, .null, .null, .int 0] [.ref pl, .ref mt] 4 1212 (bk_X8 h0 pl mt) := by
  refine ct_met pn_X8.1 rfl rfl (Nat.le_of_ble_eq_true rfl) (fun A => ?_) l
  show Y mX8_init D A _ _ _ 0 [(0, .ref h0), (1, .ref pl), (2, .ref mt)] [] [(h0, .inr (8, [.null, .null, .null, .null, .null, .int 0]))] [] 0 0
  refine y_aload 0 dX8_init_0 rfl ?_
  refine y_obj dX8_init_1 (lm_t1 _ (List.mem_of_getElem? (i := 163) rfl)) rfl rfl ?_
  refine y_aload 0 dX8_init_4 rfl ?_
  refine y_sipush (nI 512) dX8_init_5 (by decide +kernel) ?_
  refine y_newa .boolean 512 (512, .inl (fun _ => 0)) dX8_init_8 (lm_t1 _ (List.mem_of_getElem? (i := 108) rfl)) rfl (fun _ => rfl) (by decide +kernel) (by decide +kernel) (Nat.le_of_ble_eq_true rfl) (Nat.le_of_ble_eq_true rfl) (Nat.le_of_ble_eq_true rfl) (fun q0 c0 => ?_)
  refine y_putF (ci := 8) [.null, .null, .ref q0, .null, .null, .int 0] 2 dX8_init_10 in_X8 tyX8_ok nmX8 rfl (by decide) (lm_t1 _ (List.mem_of_getElem? (i := 168) rfl)) rfl rfl rfl rfl rfl rfl rfl ?_
  refine y_aload 0 dX8_init_13 rfl ?_
  refine y_sipush (nI 512) dX8_init_14 (by decide +kernel) ?_
  refine y_newa .int 512 (512, .inl (fun _ => 0)) dX8_init_17 (lm_t1 _ (List.mem_of_getElem? (i := 58) rfl)) rfl (fun _ => rfl) (by decide +kernel) (by decide +kernel) (Nat.le_of_ble_eq_true rfl) (Nat.le_of_ble_eq_true rfl) (Nat.le_of_ble_eq_true rfl) (fun q1 c1 => ?_)
  refine y_putF (ci := 8) [.null, .null, .ref q0, .ref q1, .null, .int 0] 3 dX8_init_19 in_X8 tyX8_ok nmX8 rfl (by decide) (lm_t1 _ (List.mem_of_getElem? (i := 169) rfl)) rfl rfl rfl rfl rfl rfl rfl ?_
  refine y_aload 0 dX8_init_22 rfl ?_
  refine y_new (ci := 4) (fs := [.null, .int 0]) dX8_init_23 in_X4 tyX4_ok (lm_t1 _ (List.mem_of_getElem? (i := 164) rfl)) (lm_t1 _ (List.mem_of_getElem? (i := 86) rfl)) (lm_t1 _ (List.mem_of_getElem? (i := 5) rfl)) rfl df_X4 (Nat.le_of_ble_eq_true rfl) (Nat.le_of_ble_eq_true rfl) (fun q2 => ?_)
  refine y_dup dX8_init_26 ?_
  refine y_sipush (nI 186) dX8_init_27 (by decide +kernel) ?_
  refine y_call1 dX8_init_30 (fun l => ci_X4 D q2 186 (by decide) l) nvc_X4 (Or.inl (lm_t1 _ (List.mem_of_getElem? (i := 165) rfl))) rfl rfl rfl (Nat.le_of_ble_eq_true rfl) (Nat.le_of_ble_eq_true rfl) (Nat.le_of_ble_eq_true rfl) (fun b3 t3 h3 => ?_)
  refine y_putF (ci := 8) [.null, .null, .ref q0, .ref q1, .ref q2, .int 0] 4 dX8_init_33 in_X8 tyX8_ok nmX8 rfl (by decide) (lm_t1 _ (List.mem_of_getElem? (i := 170) rfl)) rfl rfl rfl rfl rfl rfl rfl ?_
  refine y_aload 0 dX8_init_36 rfl ?_
  refine y_iconst (i32 (-1)) dX8_init_37 (by decide +kernel) ?_
  refine y_put (ci := 8) [.null, .null, .ref q0, .ref q1, .ref q2, .int (i32 (-1))] 5 dX8_init_38 in_X8 tyX8_ok nmX8 rfl (by decide) (lm_t1 _ (List.mem_of_getElem? (i := 171) rfl)) rfl rfl rfl rfl rfl rfl ?_
  refine y_aload 0 dX8_init_41 rfl ?_
  refine y_aload 1 dX8_init_42 rfl ?_
  refine y_putF (ci := 8) [.ref pl, .null, .ref q0, .ref q1, .ref q2, .int (i32 (-1))] 0 dX8_init_43 in_X8 tyX8_ok nmX8 rfl (by decide) (lm_t1 _ (List.mem_of_getElem? (i := 166) rfl)) rfl rfl rfl rfl rfl rfl rfl ?_
  refine y_aload 0 dX8_init_46 rfl ?_
  refine y_aload 2 dX8_init_47 rfl ?_
  refine y_putF (ci := 8) [.ref pl, .ref mt, .ref q0, .ref q1, .ref q2, .int (i32 (-1))] 1 dX8_init_48 in_X8 tyX8_ok nmX8 rfl (by decide) (lm_t1 _ (List.mem_of_getElem? (i := 167) rfl)) rfl rfl rfl rfl rfl rfl rfl ?_
  exact y_ret dX8_init_51 (Nat.le_of_ble_eq_true rfl) (Nat.le_of_ble_eq_true rfl) ⟨q0, c0, q1, c1, q2, b3, t3, rfl, rfl, h3⟩
def bk_X7 (h0 pl mt : Nat) (ws : va_W) (tys : ctK) : Prop := ∃ (q0 : Nat) (c0 : ClassId) (q1 : Nat) (c1 : ClassId) (q2 : Nat) (c2 : ClassId), ws = (h0, .inr (7, [.ref pl, .ref mt, .ref q0, .ref q1, .ref q2, .int (i32 (-1))])) :: (ctA (ctA (ctA [] [(q0, .inl (c0, 512, .inl (fun _ => 0)))]) [(q1, .inl (c1, 512, .inl (fun _ => 0)))]) [(q2, .inl (c2, 5, .inl (fun _ => 0)))]) ∧ tys = (ctB (ctB (ctB [] [(c0, .boolean)]) [(c1, .boolean)]) [(c2, .int)])
theorem ci_X7 (D : va_G) (h0 pl mt : Nat) (l : Launch) : ctM l mX7_init D h0 7 [.null, .null, .null, .null, .null, .int 0] [.ref pl, .ref mt] 3 1029 (bk_X7 h0 pl mt) := by
  refine ct_met pn_X7.1 rfl rfl (Nat.le_of_ble_eq_true rfl) (fun A => ?_) l
  show Y mX7_init D A _ _ _ 0 [(0, .ref h0), (1, .ref pl), (2, .ref mt)] [] [(h0, .inr (7, [.null, .null, .null, .null, .null, .int 0]))] [] 0 0
  refine y_aload 0 dX7_init_0 rfl ?_
  refine y_obj dX7_init_1 (lm_t1 _ (List.mem_of_getElem? (i := 190) rfl)) rfl rfl ?_
  refine y_aload 0 dX7_init_4 rfl ?_
  refine y_sipush (nI 512) dX7_init_5 (by decide +kernel) ?_
  refine y_newa .boolean 512 (512, .inl (fun _ => 0)) dX7_init_8 (lm_t1 _ (List.mem_of_getElem? (i := 108) rfl)) rfl (fun _ => rfl) (by decide +kernel) (by decide +kernel) (Nat.le_of_ble_eq_true rfl) (Nat.le_of_ble_eq_true rfl) (Nat.le_of_ble_eq_true rfl) (fun q0 c0 => ?_)
  refine y_putF (ci := 7) [.null, .null, .ref q0, .null, .null, .int 0] 2 dX7_init_10 in_X7 tyX7_ok nmX7 rfl (by decide) (lm_t1 _ (List.mem_of_getElem? (i := 193) rfl)) rfl rfl rfl rfl rfl rfl rfl ?_
  refine y_aload 0 dX7_init_13 rfl ?_
  refine y_sipush (nI 512) dX7_init_14 (by decide +kernel) ?_
  refine y_newa .boolean 512 (512, .inl (fun _ => 0)) dX7_init_17 (lm_t1 _ (List.mem_of_getElem? (i := 108) rfl)) rfl (fun _ => rfl) (by decide +kernel) (by decide +kernel) (Nat.le_of_ble_eq_true rfl) (Nat.le_of_ble_eq_true rfl) (Nat.le_of_ble_eq_true rfl) (fun q1 c1 => ?_)
  refine y_putF (ci := 7) [.null, .null, .ref q0, .ref q1, .null, .int 0] 3 dX7_init_19 in_X7 tyX7_ok nmX7 rfl (by decide) (lm_t1 _ (List.mem_of_getElem? (i := 194) rfl)) rfl rfl rfl rfl rfl rfl rfl ?_
  refine y_aload 0 dX7_init_22 rfl ?_
  refine y_iconst (nI 5) dX7_init_23 (by decide +kernel) ?_
  refine y_newa .int 5 (5, .inl (fun _ => 0)) dX7_init_24 (lm_t1 _ (List.mem_of_getElem? (i := 58) rfl)) rfl (fun _ => rfl) (by decide +kernel) (by decide +kernel) (Nat.le_of_ble_eq_true rfl) (Nat.le_of_ble_eq_true rfl) (Nat.le_of_ble_eq_true rfl) (fun q2 c2 => ?_)
  refine y_putF (ci := 7) [.null, .null, .ref q0, .ref q1, .ref q2, .int 0] 4 dX7_init_26 in_X7 tyX7_ok nmX7 rfl (by decide) (lm_t1 _ (List.mem_of_getElem? (i := 195) rfl)) rfl rfl rfl rfl rfl rfl rfl ?_
  refine y_aload 0 dX7_init_29 rfl ?_
  refine y_iconst (i32 (-1)) dX7_init_30 (by decide +kernel) ?_
  refine y_put (ci := 7) [.null, .null, .ref q0, .ref q1, .ref q2, .int (i32 (-1))] 5 dX7_init_31 in_X7 tyX7_ok nmX7 rfl (by decide) (lm_t1 _ (List.mem_of_getElem? (i := 196) rfl)) rfl rfl rfl rfl rfl rfl ?_
  refine y_aload 0 dX7_init_34 rfl ?_
  refine y_aload 1 dX7_init_35 rfl ?_
  refine y_putF (ci := 7) [.ref pl, .null, .ref q0, .ref q1, .ref q2, .int (i32 (-1))] 0 dX7_init_36 in_X7 tyX7_ok nmX7 rfl (by decide) (lm_t1 _ (List.mem_of_getElem? (i := 191) rfl)) rfl rfl rfl rfl rfl rfl rfl ?_
  refine y_aload 0 dX7_init_39 rfl ?_
  refine y_aload 2 dX7_init_40 rfl ?_
  refine y_putF (ci := 7) [.ref pl, .ref mt, .ref q0, .ref q1, .ref q2, .int (i32 (-1))] 1 dX7_init_41 in_X7 tyX7_ok nmX7 rfl (by decide) (lm_t1 _ (List.mem_of_getElem? (i := 192) rfl)) rfl rfl rfl rfl rfl rfl rfl ?_
  exact y_ret dX7_init_44 (Nat.le_of_ble_eq_true rfl) (Nat.le_of_ble_eq_true rfl) ⟨q0, c0, q1, c1, q2, c2, rfl, rfl⟩
def bk_X2 (h0 pl mt : Nat) (ws : va_W) (tys : ctK) : Prop := ∃ (q0 : Nat) (b1 : va_W) (t1 : ctK) (q2 : Nat) (c2 : ClassId), ws = (h0, .inr (2, [.ref pl, .ref mt, .ref q0, .ref q2])) :: (ctA (ctA [] b1) [(q2, .inl (c2, 4, .inl (fun _ => 0)))]) ∧ tys = (ctB (ctB [] t1) [(c2, .int)]) ∧ bk_X5 q0 b1 t1
theorem ci_X2 (D : va_G) (h0 pl mt : Nat) (l : Launch) : ctM l mX2_init D h0 2 [.null, .null, .null, .null] [.ref pl, .ref mt] 3 53 (bk_X2 h0 pl mt) := by
  refine ct_met pn_X2.1 rfl rfl (Nat.le_of_ble_eq_true rfl) (fun A => ?_) l
  show Y mX2_init D A _ _ _ 0 [(0, .ref h0), (1, .ref pl), (2, .ref mt)] [] [(h0, .inr (2, [.null, .null, .null, .null]))] [] 0 0
  refine y_aload 0 dX2_init_0 rfl ?_
  refine y_obj dX2_init_1 (lm_t1 _ (List.mem_of_getElem? (i := 215) rfl)) rfl rfl ?_
  refine y_aload 0 dX2_init_4 rfl ?_
  refine y_new (ci := 5) (fs := [.null, .int 0, .int 0, .int 0]) dX2_init_5 in_X5 tyX5_ok (lm_t1 _ (List.mem_of_getElem? (i := 216) rfl)) (lm_t1 _ (List.mem_of_getElem? (i := 66) rfl)) (lm_t1 _ (List.mem_of_getElem? (i := 4) rfl)) rfl df_X5 (Nat.le_of_ble_eq_true rfl) (Nat.le_of_ble_eq_true rfl) (fun q0 => ?_)
  refine y_dup dX2_init_8 ?_
  refine y_call0 dX2_init_9 (fun l => ci_X5 D q0  l) nvc_X5 (Or.inr ⟨_, (lm_t1 _ (List.mem_of_getElem? (i := 217) rfl))⟩) rfl rfl rfl (Nat.le_of_ble_eq_true rfl) (Nat.le_of_ble_eq_true rfl) (Nat.le_of_ble_eq_true rfl) (fun b1 t1 h1 => ?_)
  refine y_putF (ci := 2) [.null, .null, .ref q0, .null] 2 dX2_init_12 in_X2 tyX2_ok nmX2 rfl (by decide) (lm_t1 _ (List.mem_of_getElem? (i := 220) rfl)) rfl rfl rfl rfl rfl rfl rfl ?_
  refine y_aload 0 dX2_init_15 rfl ?_
  refine y_iconst (nI 4) dX2_init_16 (by decide +kernel) ?_
  refine y_newa .int 4 (4, .inl (fun _ => 0)) dX2_init_17 (lm_t1 _ (List.mem_of_getElem? (i := 58) rfl)) rfl (fun _ => rfl) (by decide +kernel) (by decide +kernel) (Nat.le_of_ble_eq_true rfl) (Nat.le_of_ble_eq_true rfl) (Nat.le_of_ble_eq_true rfl) (fun q2 c2 => ?_)
  refine y_putF (ci := 2) [.null, .null, .ref q0, .ref q2] 3 dX2_init_19 in_X2 tyX2_ok nmX2 rfl (by decide) (lm_t1 _ (List.mem_of_getElem? (i := 221) rfl)) rfl rfl rfl rfl rfl rfl rfl ?_
  refine y_aload 0 dX2_init_22 rfl ?_
  refine y_aload 1 dX2_init_23 rfl ?_
  refine y_putF (ci := 2) [.ref pl, .null, .ref q0, .ref q2] 0 dX2_init_24 in_X2 tyX2_ok nmX2 rfl (by decide) (lm_t1 _ (List.mem_of_getElem? (i := 218) rfl)) rfl rfl rfl rfl rfl rfl rfl ?_
  refine y_aload 0 dX2_init_27 rfl ?_
  refine y_aload 2 dX2_init_28 rfl ?_
  refine y_putF (ci := 2) [.ref pl, .ref mt, .ref q0, .ref q2] 1 dX2_init_29 in_X2 tyX2_ok nmX2 rfl (by decide) (lm_t1 _ (List.mem_of_getElem? (i := 219) rfl)) rfl rfl rfl rfl rfl rfl rfl ?_
  exact y_ret dX2_init_32 (Nat.le_of_ble_eq_true rfl) (Nat.le_of_ble_eq_true rfl) ⟨q0, b1, t1, q2, c2, rfl, rfl, h1⟩
def bk_X0 (h0 pl mt : Nat) (ws : va_W) (tys : ctK) : Prop := ∃ (q0 : Nat) (c0 : ClassId) (q1 : Nat) (c1 : ClassId) (q2 : Nat) (b3 : va_W) (t3 : ctK), ws = (h0, .inr (0, [.ref pl, .ref mt, .ref q0, .ref q1, .ref q2, .int (i32 (-1))])) :: (ctA (ctA (ctA [] [(q0, .inl (c0, 512, .inl (fun _ => 0)))]) [(q1, .inl (c1, 512, .inl (fun _ => 0)))]) b3) ∧ tys = (ctB (ctB (ctB [] [(c0, .int)]) [(c1, .int)]) t3) ∧ bk_X4 126 q2 b3 t3
theorem ci_X0 (D : va_G) (h0 pl mt : Nat) (l : Launch) : ctM l mX0_init D h0 0 [.null, .null, .null, .null, .null, .int 0] [.ref pl, .ref mt] 4 1152 (bk_X0 h0 pl mt) := by
  refine ct_met pn_X0.1 rfl rfl (Nat.le_of_ble_eq_true rfl) (fun A => ?_) l
  show Y mX0_init D A _ _ _ 0 [(0, .ref h0), (1, .ref pl), (2, .ref mt)] [] [(h0, .inr (0, [.null, .null, .null, .null, .null, .int 0]))] [] 0 0
  refine y_aload 0 dX0_init_0 rfl ?_
  refine y_obj dX0_init_1 (lm_t1 _ (List.mem_of_getElem? (i := 236) rfl)) rfl rfl ?_
  refine y_aload 0 dX0_init_4 rfl ?_
  refine y_sipush (nI 512) dX0_init_5 (by decide +kernel) ?_
  refine y_newa .int 512 (512, .inl (fun _ => 0)) dX0_init_8 (lm_t1 _ (List.mem_of_getElem? (i := 58) rfl)) rfl (fun _ => rfl) (by decide +kernel) (by decide +kernel) (Nat.le_of_ble_eq_true rfl) (Nat.le_of_ble_eq_true rfl) (Nat.le_of_ble_eq_true rfl) (fun q0 c0 => ?_)
  refine y_putF (ci := 0) [.null, .null, .ref q0, .null, .null, .int 0] 2 dX0_init_10 in_X0 tyX0_ok nmX0 rfl (by decide) (lm_t2 _ (List.mem_of_getElem? (i := 1) rfl)) rfl rfl rfl rfl rfl rfl rfl ?_
  refine y_aload 0 dX0_init_13 rfl ?_
  refine y_sipush (nI 512) dX0_init_14 (by decide +kernel) ?_
  refine y_newa .int 512 (512, .inl (fun _ => 0)) dX0_init_17 (lm_t1 _ (List.mem_of_getElem? (i := 58) rfl)) rfl (fun _ => rfl) (by decide +kernel) (by decide +kernel) (Nat.le_of_ble_eq_true rfl) (Nat.le_of_ble_eq_true rfl) (Nat.le_of_ble_eq_true rfl) (fun q1 c1 => ?_)
  refine y_putF (ci := 0) [.null, .null, .ref q0, .ref q1, .null, .int 0] 3 dX0_init_19 in_X0 tyX0_ok nmX0 rfl (by decide) (lm_t2 _ (List.mem_of_getElem? (i := 2) rfl)) rfl rfl rfl rfl rfl rfl rfl ?_
  refine y_aload 0 dX0_init_22 rfl ?_
  refine y_new (ci := 4) (fs := [.null, .int 0]) dX0_init_23 in_X4 tyX4_ok (lm_t1 _ (List.mem_of_getElem? (i := 237) rfl)) (lm_t1 _ (List.mem_of_getElem? (i := 86) rfl)) (lm_t1 _ (List.mem_of_getElem? (i := 5) rfl)) rfl df_X4 (Nat.le_of_ble_eq_true rfl) (Nat.le_of_ble_eq_true rfl) (fun q2 => ?_)
  refine y_dup dX0_init_26 ?_
  refine y_bipush (nI 126) dX0_init_27 (by decide +kernel) ?_
  refine y_call1 dX0_init_29 (fun l => ci_X4 D q2 126 (by decide) l) nvc_X4 (Or.inl (lm_t1 _ (List.mem_of_getElem? (i := 238) rfl))) rfl rfl rfl (Nat.le_of_ble_eq_true rfl) (Nat.le_of_ble_eq_true rfl) (Nat.le_of_ble_eq_true rfl) (fun b3 t3 h3 => ?_)
  refine y_putF (ci := 0) [.null, .null, .ref q0, .ref q1, .ref q2, .int 0] 4 dX0_init_32 in_X0 tyX0_ok nmX0 rfl (by decide) (lm_t2 _ (List.mem_of_getElem? (i := 3) rfl)) rfl rfl rfl rfl rfl rfl rfl ?_
  refine y_aload 0 dX0_init_35 rfl ?_
  refine y_iconst (i32 (-1)) dX0_init_36 (by decide +kernel) ?_
  refine y_put (ci := 0) [.null, .null, .ref q0, .ref q1, .ref q2, .int (i32 (-1))] 5 dX0_init_37 in_X0 tyX0_ok nmX0 rfl (by decide) (lm_t2 _ (List.mem_of_getElem? (i := 4) rfl)) rfl rfl rfl rfl rfl rfl ?_
  refine y_aload 0 dX0_init_40 rfl ?_
  refine y_aload 1 dX0_init_41 rfl ?_
  refine y_putF (ci := 0) [.ref pl, .null, .ref q0, .ref q1, .ref q2, .int (i32 (-1))] 0 dX0_init_42 in_X0 tyX0_ok nmX0 rfl (by decide) (lm_t1 _ (List.mem_of_getElem? (i := 239) rfl)) rfl rfl rfl rfl rfl rfl rfl ?_
  refine y_aload 0 dX0_init_45 rfl ?_
  refine y_aload 2 dX0_init_46 rfl ?_
  refine y_putF (ci := 0) [.ref pl, .ref mt, .ref q0, .ref q1, .ref q2, .int (i32 (-1))] 1 dX0_init_47 in_X0 tyX0_ok nmX0 rfl (by decide) (lm_t2 _ (List.mem_of_getElem? (i := 0) rfl)) rfl rfl rfl rfl rfl rfl rfl ?_
  exact y_ret dX0_init_50 (Nat.le_of_ble_eq_true rfl) (Nat.le_of_ble_eq_true rfl) ⟨q0, c0, q1, c1, q2, b3, t3, rfl, rfl, h3⟩
theorem ct_at {c0 r x : Nat × va_E} {B C : va_W} : (c0 :: (ctA (r :: B) (x :: C)))[B.length + 2]? = some x := by simp [ctA]
theorem it_X3 {D : va_G} {A : Nat → Prop} {NC NS : Nat} {Bk : va_W → ctK → Prop} {h0 r : Nat} {cr : ClassId} {f : Nat → Option Nat} {B : va_W} {T : ctK} {i k n : Nat} (hi : i < 6) (hk : k + 2 ≤ NC) (hn : n + 40 ≤ NS)
    (kk : ∀ (q a : Nat) (c : ClassId), Y mX3_init D A NC NS Bk 15 [(1, .int (nI (i + 1))), (0, .ref h0)] [] ((h0, .inr (3, [.ref r, .int 0, .int 0])) :: ((r, .inl (cr, 6, .inr (.inr (.inr (.inr (va_up f i (some q))))))) :: (ctA B [(q, .inr (1, [.ref a, .int (nI 3), .int 0, .int 0])), (a, .inl (c, 36, .inl (fun _ => 0)))]))) ((cr, .object "PlaneCuts$Arrangement") :: (ctB T [(c, .int)])) (k + 2) (n + 40)) :
    Y mX3_init D A NC NS Bk 15 [(1, .int (nI i)), (0, .ref h0)] [] ((h0, .inr (3, [.ref r, .int 0, .int 0])) :: ((r, .inl (cr, 6, .inr (.inr (.inr (.inr f))))) :: B)) ((cr, .object "PlaneCuts$Arrangement") :: T) k n := by
  refine y_iload 0 dX3_init_15 rfl ?_
  refine y_bipush (nI 6) dX3_init_16 (by decide +kernel) ?_
  refine y_geF 40 (by decide) dX3_init_18 (nI_ge hi (by decide)) ?_
  refine y_aload 1 dX3_init_21 rfl ?_
  refine y_get (ci := 3) 0 dX3_init_22 in_X3 rfl (by decide) (lm_t1 _ (List.mem_of_getElem? (i := 147) rfl)) rfl ?_
  refine y_iload 0 dX3_init_25 rfl ?_
  refine y_new (ci := 1) (fs := [.null, .int 0, .int 0, .int 0]) dX3_init_26 in_X1 tyX1_ok (lm_t1 _ (List.mem_of_getElem? (i := 144) rfl)) (lm_t1 _ (List.mem_of_getElem? (i := 26) rfl)) (lm_t1 _ (List.mem_of_getElem? (i := 2) rfl)) rfl df_X1 (by omega) (by omega) (fun q => ?_)
  refine y_dup dX3_init_29 ?_
  refine y_call0 dX3_init_30 (fun l => ci_X1 D q l) nvc_X1 (Or.inr ⟨_, (lm_t1 _ (List.mem_of_getElem? (i := 146) rfl))⟩) rfl rfl rfl (Nat.le_of_ble_eq_true rfl) (by omega) (by omega) (fun b t hb => ?_)
  obtain ⟨a, c, rfl, rfl⟩ := hb
  refine y_astq 1 0 (B.length + 2) 1 dX3_init_33 rfl rfl ct_at rfl (vp_in_nI hi (by decide)) ?_
  rw [nI_clamp (show i < 2 ^ 31 by omega)]
  refine y_iinc (j := 0) (v := nI (i + 1)) [(1, .int (nI (i + 1))), (0, .ref h0)] dX3_init_34 rfl (nI_1 i) (by decide) rfl ?_
  refine y_goto 15 dX3_init_37 (by decide) ?_
  exact kk q a c
def bk_X3 (h0 : Nat) (ws : va_W) (tys : ctK) : Prop := ∃ (r : Nat) (cr : ClassId) (q0 a0 : Nat) (c0 : ClassId) (q1 a1 : Nat) (c1 : ClassId) (q2 a2 : Nat) (c2 : ClassId) (q3 a3 : Nat) (c3 : ClassId) (q4 a4 : Nat) (c4 : ClassId) (q5 a5 : Nat) (c5 : ClassId), ws = (h0, .inr (3, [.ref r, .int 0, .int 0])) :: ((r, .inl (cr, 6, .inr (.inr (.inr (.inr (va_up (va_up (va_up (va_up (va_up (va_up (fun _ => none) 0 (some q0)) 1 (some q1)) 2 (some q2)) 3 (some q3)) 4 (some q4)) 5 (some q5))))))) :: (ctA (ctA (ctA (ctA (ctA (ctA [] [(q0, .inr (1, [.ref a0, .int (nI 3), .int 0, .int 0])), (a0, .inl (c0, 36, .inl (fun _ => 0)))]) [(q1, .inr (1, [.ref a1, .int (nI 3), .int 0, .int 0])), (a1, .inl (c1, 36, .inl (fun _ => 0)))]) [(q2, .inr (1, [.ref a2, .int (nI 3), .int 0, .int 0])), (a2, .inl (c2, 36, .inl (fun _ => 0)))]) [(q3, .inr (1, [.ref a3, .int (nI 3), .int 0, .int 0])), (a3, .inl (c3, 36, .inl (fun _ => 0)))]) [(q4, .inr (1, [.ref a4, .int (nI 3), .int 0, .int 0])), (a4, .inl (c4, 36, .inl (fun _ => 0)))]) [(q5, .inr (1, [.ref a5, .int (nI 3), .int 0, .int 0])), (a5, .inl (c5, 36, .inl (fun _ => 0)))])) ∧ tys = (cr, .object "PlaneCuts$Arrangement") :: (ctB (ctB (ctB (ctB (ctB (ctB [] [(c0, .int)]) [(c1, .int)]) [(c2, .int)]) [(c3, .int)]) [(c4, .int)]) [(c5, .int)])
theorem ci_X3 (D : va_G) (h0 : Nat) (l : Launch) : ctM l mX3_init D h0 3 [.null, .int 0, .int 0] [] 13 246 (bk_X3 h0) := by
  refine ct_met pn_X3.1 rfl rfl (Nat.le_of_ble_eq_true rfl) (fun A => ?_) l
  show Y mX3_init D A _ _ _ 0 [(0, .ref h0)] [] [(h0, .inr (3, [.null, .int 0, .int 0]))] [] 0 0
  refine y_aload 0 dX3_init_0 rfl ?_
  refine y_obj dX3_init_1 (lm_t1 _ (List.mem_of_getElem? (i := 143) rfl)) rfl rfl ?_
  refine y_aload 0 dX3_init_4 rfl ?_
  refine y_bipush (nI 6) dX3_init_5 (by decide +kernel) ?_
  refine y_newq (C := "PlaneCuts$Arrangement") 6 dX3_init_7 (lm_t1 _ (List.mem_of_getElem? (i := 144) rfl)) (lm_t1 _ (List.mem_of_getElem? (i := 145) rfl)) (by decide +kernel) (by decide +kernel) (Nat.le_of_ble_eq_true rfl) (Nat.le_of_ble_eq_true rfl) (Nat.le_of_ble_eq_true rfl) (fun r cr => ?_)
  refine y_putF (ci := 3) [.ref r, .int 0, .int 0] 0 dX3_init_10 in_X3 tyX3_ok nmX3 rfl (by decide) (lm_t1 _ (List.mem_of_getElem? (i := 147) rfl)) rfl rfl rfl rfl rfl rfl rfl ?_
  refine y_iconst (nI 0) dX3_init_13 (by decide +kernel) ?_
  refine y_istore [(1, .int (nI 0)), (0, .ref h0)] dX3_init_14 (by decide) rfl ?_
  refine it_X3 (by decide) (Nat.le_of_ble_eq_true rfl) (Nat.le_of_ble_eq_true rfl) (fun q0 a0 c0 => ?_)
  refine it_X3 (by decide) (Nat.le_of_ble_eq_true rfl) (Nat.le_of_ble_eq_true rfl) (fun q1 a1 c1 => ?_)
  refine it_X3 (by decide) (Nat.le_of_ble_eq_true rfl) (Nat.le_of_ble_eq_true rfl) (fun q2 a2 c2 => ?_)
  refine it_X3 (by decide) (Nat.le_of_ble_eq_true rfl) (Nat.le_of_ble_eq_true rfl) (fun q3 a3 c3 => ?_)
  refine it_X3 (by decide) (Nat.le_of_ble_eq_true rfl) (Nat.le_of_ble_eq_true rfl) (fun q4 a4 c4 => ?_)
  refine it_X3 (by decide) (Nat.le_of_ble_eq_true rfl) (Nat.le_of_ble_eq_true rfl) (fun q5 a5 c5 => ?_)
  refine y_iload 0 dX3_init_15 rfl ?_
  refine y_bipush (nI 6) dX3_init_16 (by decide +kernel) ?_
  refine y_geT 40 dX3_init_18 (by decide) (by decide +kernel) ?_
  exact y_ret dX3_init_40 (Nat.le_of_ble_eq_true rfl) (Nat.le_of_ble_eq_true rfl) ⟨r, cr, q0, a0, c0, q1, a1, c1, q2, a2, c2, q3, a3, c3, q4, a4, c4, q5, a5, c5, rfl, rfl⟩
