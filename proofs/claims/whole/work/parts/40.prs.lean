/-! THE TEXT: what it is read as -/
abbrev Od : Type := Nat × (Nat → Int)
def ch (tx : List Nat) (p : Nat) : Nat := (tx[p]?).getD 200
def skF (tx : List Nat) : Nat → Nat → Nat
  | 0, p => p
  | f + 1, p => if ch tx p = 32 then skF tx f (p + 1) else p
def sk (tx : List Nat) (p : Nat) : Nat := skF tx (tx.length - p) p
theorem ch_lt {tx : List Nat} {p : Nat} (h : ch tx p ≠ 200) : p < tx.length := by
  by_cases q : p < tx.length
  · exact q
  · exact absurd (by unfold ch; rw [List.getElem?_eq_none (by omega)]; rfl) h
theorem ch_get {tx : List Nat} {p : Nat} (h : p < tx.length) : tx[p]? = some (ch tx p) := by
  unfold ch
  rw [List.getElem?_eq_getElem h]
  rfl
theorem ch_end {tx : List Nat} {p : Nat} (h : tx.length ≤ p) : ch tx p = 200 := by
  unfold ch
  rw [List.getElem?_eq_none h]
  rfl
theorem sk_sp {tx : List Nat} {p : Nat} (h : ch tx p = 32) : sk tx p = sk tx (p + 1) := by
  have hl := ch_lt (tx := tx) (p := p) (by omega)
  unfold sk
  rw [show tx.length - p = (tx.length - (p + 1)) + 1 by omega, skF, if_pos h]
theorem sk_ns {tx : List Nat} {p : Nat} (h : ch tx p ≠ 32) : sk tx p = p := by
  unfold sk
  cases tx.length - p with
  | zero => rfl
  | succ n => rw [skF, if_neg h]
theorem sk_all (tx : List Nat) : ∀ (k p : Nat), tx.length - p = k → p ≤ sk tx p ∧ (p ≤ tx.length → sk tx p ≤ tx.length) ∧ ch tx (sk tx p) ≠ 32 := by
  intro k
  induction k with
  | zero =>
    intro p h
    have e := ch_end (tx := tx) (p := p) (by omega)
    rw [sk_ns (by omega)]
    exact ⟨Nat.le_refl p, fun h => h, by omega⟩
  | succ k ih =>
    intro p h
    by_cases q : ch tx p = 32
    · rw [sk_sp q]
      obtain ⟨h1, h2, h3⟩ := ih (p + 1) (by omega)
      exact ⟨by omega, fun _ => h2 (by omega), h3⟩
    · rw [sk_ns q]
      exact ⟨Nat.le_refl p, fun h => h, q⟩
theorem sk_ge (tx : List Nat) (p : Nat) : p ≤ sk tx p := (sk_all tx _ p rfl).1
theorem sk_le {tx : List Nat} {p : Nat} (h : p ≤ tx.length) : sk tx p ≤ tx.length := (sk_all tx _ p rfl).2.1 h
theorem sk_ne (tx : List Nat) (p : Nat) : ch tx (sk tx p) ≠ 32 := (sk_all tx _ p rfl).2.2
theorem sk_sk (tx : List Nat) (p : Nat) : sk tx (sk tx p) = sk tx p := sk_ns (sk_ne tx p)
/-- a figure from lo to hi at p -/
def fig (tx : List Nat) (lo hi p : Nat) : Bool := decide (lo + 48 ≤ ch tx p ∧ ch tx p ≤ hi + 48)
theorem fig_lt {tx : List Nat} {lo hi p : Nat} (hh : hi ≤ 9) (h : fig tx lo hi p = true) : p < tx.length := ch_lt (by
  have := of_decide_eq_true h
  omega)
def flo (L : Nat) : Nat := if L = 100 then 2 else 0
def fhi (L : Nat) : Nat := if L = 100 then 4 else 9
theorem fhi_le (L : Nat) : fhi L ≤ 9 := by unfold fhi; split <;> omega
def rdNum (tx : List Nat) (L p : Nat) : Nat ⊕ (Int × Nat) :=
  if L = 112 ∧ ch tx (sk tx p) = 45 then
    if fig tx 1 9 (sk tx p + 1) = true then .inr (-((ch tx (sk tx p + 1) - 48 : Nat) : Int), sk tx p + 2) else .inl (sk tx p + 1)
  else if fig tx (flo L) (fhi L) (sk tx p) = true then .inr (((ch tx (sk tx p) - 48 : Nat) : Int), sk tx p + 1) else .inl (sk tx p)
def rdNs (tx : List Nat) (L p : Nat) : Nat → Nat ⊕ ((Nat → Int) × Nat)
  | 0 => .inr (fun _ => 0, p)
  | k + 1 => match rdNs tx L p k with
    | .inl e => .inl e
    | .inr (f, q) => match rdNum tx L q with
      | .inl e => .inl e
      | .inr (x, q') => .inr (fun i => if i = k then x else f i, q')
def cnt (L d : Nat) : Nat := if L = 112 then d else if L = 115 then 2 else if L = 100 ∨ L = 116 ∨ L = 120 ∨ L = 109 then 1 else 0
def rdOrd (tx : List Nat) (d p : Nat) : Nat ⊕ (Od × Nat) :=
  if cnt (ch tx (sk tx p)) d = 0 then .inl (sk tx p) else
    match rdNs tx (ch tx (sk tx p)) (sk tx p + 1) (cnt (ch tx (sk tx p)) d) with
    | .inl e => .inl e
    | .inr (f, q) => if ch tx (sk tx q) = 59 then .inr ((ch tx (sk tx p), f), sk tx q + 1) else .inl (sk tx q)
def nxD (d : Nat) (o : Od) : Nat := if o.1 = 100 then (o.2 0).toNat else d
def rdAll (tx : List Nat) : Nat → Nat → Nat → List Od → Nat ⊕ List Od
  | 0, _, _, _ => .inl 0
  | f + 1, d, p, acc => match rdOrd tx d p with
    | .inl e => .inl e
    | .inr (o, q) => if sk tx q < tx.length then rdAll tx f (nxD d o) q (acc ++ [o]) else .inr (acc ++ [o])
def parse (tx : List Nat) (d : Nat) : Nat ⊕ List Od := rdAll tx 34 d 0 []
theorem rdNum_ok {tx : List Nat} {L p : Nat} {x : Int} {q : Nat} (h : rdNum tx L p = .inr (x, q)) : p + 1 ≤ q ∧ q ≤ tx.length ∧ (-9 ≤ x ∧ x ≤ 9) ∧ (L ≠ 112 → 0 ≤ x) ∧ (L = 100 → 2 ≤ x ∧ x ≤ 4) := by
  have hge := sk_ge tx p
  unfold rdNum at h
  split at h
  · rename_i c
    split at h
    · rename_i z
      have h1 := fig_lt (by omega) z
      have h2 := of_decide_eq_true z
      injection h with h
      injection h with e1 e2
      subst e1 e2
      refine ⟨by omega, by omega, by omega, fun z => absurd c.1 z, fun z => by omega⟩
    · cases h
  · rename_i c
    split at h
    · rename_i z
      have h0 := fhi_le L
      have h1 := fig_lt h0 z
      have h2 := of_decide_eq_true z
      injection h with h
      injection h with e1 e2
      subst e1 e2
      refine ⟨by omega, by omega, by omega, fun z => by omega, fun z => ?_⟩
      unfold flo fhi at h2
      rw [if_pos z, if_pos z] at h2
      omega
    · cases h
theorem rdNum_no {tx : List Nat} {L p e : Nat} (hp : p ≤ tx.length) (h : rdNum tx L p = .inl e) : e ≤ tx.length := by
  have hle := sk_le hp
  unfold rdNum at h
  split at h
  · rename_i c
    have := ch_lt (tx := tx) (p := sk tx p) (by omega)
    split at h
    · cases h
    · injection h with h; omega
  · split at h
    · cases h
    · injection h with h; omega
theorem rdNs_ok {tx : List Nat} {L p : Nat} (hp : p ≤ tx.length) : ∀ (k : Nat) (f : Nat → Int) (q : Nat), rdNs tx L p k = .inr (f, q) → p + k ≤ q ∧ q ≤ tx.length ∧ ∀ i, (-9 ≤ f i ∧ f i ≤ 9) ∧ (L ≠ 112 → 0 ≤ f i) ∧ (i < k → L = 100 → 2 ≤ f i ∧ f i ≤ 4) ∧ (k ≤ i → f i = 0) := by
  intro k
  induction k with
  | zero =>
    intro f q h
    unfold rdNs at h
    injection h with h
    injection h with e1 e2
    subst e1 e2
    exact ⟨by omega, hp, fun i => ⟨(by decide : (-9 : Int) ≤ 0 ∧ (0 : Int) ≤ 9), fun _ => Int.le_refl 0, fun z => by omega, fun _ => rfl⟩⟩
  | succ k ih =>
    intro f q h
    unfold rdNs at h
    cases e : rdNs tx L p k with
    | inl e0 => rw [e] at h; cases h
    | inr fq =>
      obtain ⟨f0, q0⟩ := fq
      rw [e] at h
      obtain ⟨i1, i2, i3⟩ := ih f0 q0 e
      cases e2 : rdNum tx L q0 with
      | inl e0 => simp only [e2] at h; cases h
      | inr xq =>
        obtain ⟨x, q1⟩ := xq
        simp only [e2] at h
        injection h with h
        injection h with e3 e4
        subst e3 e4
        obtain ⟨n1, n2, n3, n4, n5⟩ := rdNum_ok e2
        refine ⟨by omega, n2, fun i => ?_⟩
        by_cases z : i = k
        · subst z
          simp only [if_true]
          exact ⟨n3, n4, fun _ => n5, fun z => by omega⟩
        · simp only [if_neg z]
          obtain ⟨j1, j2, j3, j4⟩ := i3 i
          exact ⟨j1, j2, fun a b => j3 (by omega) b, fun a => j4 (by omega)⟩
theorem rdNs_no {tx : List Nat} {L p k e : Nat} (h : rdNs tx L p k = .inl e) : ∀ n, k ≤ n → rdNs tx L p n = .inl e := by
  intro n
  induction n with
  | zero => intro hn; obtain rfl : k = 0 := by omega
            exact h
  | succ n ih =>
    intro hn
    by_cases z : k = n + 1
    · rw [← z]; exact h
    · unfold rdNs; rw [ih (by omega)]
/-- an order as the text can give it -/
def OdOK (o : Od) : Prop := (o.1 = 112 ∨ o.1 = 115 ∨ o.1 = 100 ∨ o.1 = 116 ∨ o.1 = 120 ∨ o.1 = 109) ∧ (∀ k, -9 ≤ o.2 k ∧ o.2 k ≤ 9) ∧ (o.1 ≠ 112 → ∀ k, 0 ≤ o.2 k) ∧ (o.1 = 100 → 2 ≤ o.2 0 ∧ o.2 0 ≤ 4)
theorem cnt_le {L d : Nat} (hd : d ≤ 4) : cnt L d ≤ 4 := by
  unfold cnt
  split
  · exact hd
  · split
    · omega
    · split <;> omega
theorem cnt_pos {L d : Nat} (h : cnt L d ≠ 0) : L = 112 ∨ L = 115 ∨ L = 100 ∨ L = 116 ∨ L = 120 ∨ L = 109 := by
  unfold cnt at h
  split at h
  · omega
  · split at h
    · omega
    · split at h
      · omega
      · omega
theorem rdOrd_ok {tx : List Nat} {d p : Nat} {o : Od} {q : Nat} (hd : 2 ≤ d ∧ d ≤ 4) (hp : p ≤ tx.length) (h : rdOrd tx d p = .inr (o, q)) : p + 3 ≤ q ∧ q ≤ tx.length ∧ OdOK o := by
  have hge := sk_ge tx p
  unfold rdOrd at h
  split at h
  · cases h
  · rename_i c
    have hc := cnt_pos c
    have hlt := ch_lt (tx := tx) (p := sk tx p) (by omega)
    cases e : rdNs tx (ch tx (sk tx p)) (sk tx p + 1) (cnt (ch tx (sk tx p)) d) with
    | inl e0 => rw [e] at h; cases h
    | inr fq =>
      obtain ⟨f, q0⟩ := fq
      rw [e] at h
      obtain ⟨i1, i2, i3⟩ := rdNs_ok (by omega) _ f q0 e
      have hge2 := sk_ge tx q0
      simp only at h
      split at h
      · rename_i z
        have hlt2 := ch_lt (tx := tx) (p := sk tx q0) (by omega)
        injection h with h
        injection h with e1 e2
        subst e1 e2
        refine ⟨by omega, by omega, hc, fun k => (i3 k).1, fun hL k => (i3 k).2.1 hL, fun hL => (i3 0).2.2.1 (by omega) hL⟩
      · cases h
theorem rdOrd_no {tx : List Nat} {d p e : Nat} (hd : 2 ≤ d ∧ d ≤ 4) (hp : p ≤ tx.length) (h : rdOrd tx d p = .inl e) : e ≤ tx.length := by
  have hle := sk_le hp
  unfold rdOrd at h
  split at h
  · injection h with h; omega
  · rename_i c
    have hc := cnt_pos c
    have hlt := ch_lt (tx := tx) (p := sk tx p) (by omega)
    cases e0 : rdNs tx (ch tx (sk tx p)) (sk tx p + 1) (cnt (ch tx (sk tx p)) d) with
    | inl e1 =>
      rw [e0] at h
      injection h with h
      subst h
      have key : ∀ k, rdNs tx (ch tx (sk tx p)) (sk tx p + 1) k = .inl e1 → e1 ≤ tx.length := by
        intro k
        induction k with
        | zero => intro z; unfold rdNs at z; cases z
        | succ k ih =>
          intro z
          unfold rdNs at z
          cases e2 : rdNs tx (ch tx (sk tx p)) (sk tx p + 1) k with
          | inl e3 => rw [e2] at z; injection z with z; exact ih (by rw [e2, z])
          | inr fq =>
            obtain ⟨f, q0⟩ := fq
            rw [e2] at z
            have hq := rdNs_ok (by omega) _ f q0 e2
            cases e4 : rdNum tx (ch tx (sk tx p)) q0 with
            | inl e5 => simp only [e4] at z; injection z with z; subst z; exact rdNum_no hq.2.1 e4
            | inr xq => simp only [e4] at z; cases z
      exact key _ e0
    | inr fq =>
      obtain ⟨f, q0⟩ := fq
      rw [e0] at h
      obtain ⟨i1, i2, i3⟩ := rdNs_ok (by omega) _ f q0 e0
      simp only at h
      split at h
      · cases h
      · injection h with h
        have := sk_le i2
        omega
/-- what an order does: an error, or the arrangement that it makes -/
noncomputable def exO (a : Ar) (o : Od) : Nat ⊕ Ar :=
  if o.1 = 100 then .inr (aSpace (o.2 0).toNat)
  else if o.1 = 112 then
    @ite _ (plOK a.1 (q4 (i32 (o.2 0)) (i32 (o.2 1)) (i32 (o.2 2)) (i32 (o.2 3)))) (Classical.propDecidable _)
      (@ite _ (∃ i, i < a.2.1 ∧ same (a.2.2 i) (plR (q4 (i32 (o.2 0)) (i32 (o.2 1)) (i32 (o.2 2)) (i32 (o.2 3))))) (Classical.propDecidable _) (.inl 3)
        (if a.2.1 = 9 then .inl 4 else .inr (aAdd a (plR (q4 (i32 (o.2 0)) (i32 (o.2 1)) (i32 (o.2 2)) (i32 (o.2 3)))))))
      (.inl 2)
  else if o.1 = 116 then (if (o.2 0).toNat < a.2.1 then .inr (aTurn a (o.2 0).toNat) else .inl 2)
  else if o.1 = 120 then (if (o.2 0).toNat < a.2.1 then .inr (aDrop a (o.2 0).toNat) else .inl 2)
  else if o.1 = 115 then (if (o.2 0).toNat < a.2.1 ∧ (o.2 1).toNat < a.2.1 ∧ (o.2 0).toNat ≠ (o.2 1).toNat then .inr (aSwap a (o.2 0).toNat (o.2 1).toNat) else .inl 2)
  else (if (o.2 0).toNat < 4 then .inr (aMakes a.1 (o.2 0).toNat) else .inl 2)
noncomputable def exL (a : Ar) : List Od → Nat → (Nat × Nat) ⊕ Ar
  | [], _ => .inr a
  | o :: l, k => match exO a o with
    | .inl e => .inl (e, k)
    | .inr b => exL b l (k + 1)
