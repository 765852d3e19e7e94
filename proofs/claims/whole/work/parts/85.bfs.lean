/-! breadth first search over the regions -/
def dl (f x : Nat) : Nat := pc9 (f ^^^ x)
/-- the pairs that are done: regions before the h-th, and of the h-th the planes below i -/
def DD (L : List Nat) (h i y j : Nat) : Prop := (∃ k : Nat, k < h ∧ L[k]? = some y) ∨ (L[h]? = some y ∧ j < i)
noncomputable def wS (pt : Nat → Bool) (f : Nat) (D : Nat → Nat → Prop) (x : Nat) : Nat → Nat
  | 0 => 0
  | j + 1 => wS pt f D x j + @ite Nat (D (x ^^^ 2 ^ j) j ∧ pt x = true ∧ (f ^^^ x).testBit j = true) (Classical.propDecidable _) (ga pt f (f ^^^ (x ^^^ 2 ^ j))) 0
def BF (pt : Nat → Bool) (N f : Nat) (st wy qu : Nat → Int32) (L : List Nat) (h i : Nat) : Prop :=
  (∀ (k x : Nat), L[k]? = some x → qu k = nI x) ∧
  (L.Nodup) ∧
  (∀ x, x ∈ L → x < 2 ^ N ∧ pt x = true) ∧
  (∀ x, x ∈ L → st x = nI (dl f x)) ∧
  (∀ x, x < 2 ^ N → x ∉ L → st x = i32 (-1)) ∧
  (L[0]? = some f) ∧
  (∀ (k m x y : Nat), k ≤ m → L[k]? = some x → L[m]? = some y → dl f x ≤ dl f y) ∧
  (∀ x y, x ∈ L → L[h]? = some y → dl f x ≤ dl f y + 1) ∧
  (∀ y j, DD L h i y j → j < N → pt (y ^^^ 2 ^ j) = true → y ^^^ 2 ^ j ∈ L) ∧
  (∀ x, x < 2 ^ N → wy x = nI ((if x = f then 1 else 0) + wS pt f (DD L h i) x N))
theorem BF.b1 {pt : Nat → Bool} {N f : Nat} {st wy qu : Nat → Int32} {L : List Nat} {h i : Nat} (B : BF pt N f st wy qu L h i) : ∀ (k x : Nat), L[k]? = some x → qu k = nI x := B.1
theorem BF.b2 {pt : Nat → Bool} {N f : Nat} {st wy qu : Nat → Int32} {L : List Nat} {h i : Nat} (B : BF pt N f st wy qu L h i) : L.Nodup := B.2.1
theorem BF.b2' {pt : Nat → Bool} {N f : Nat} {st wy qu : Nat → Int32} {L : List Nat} {h i : Nat} (B : BF pt N f st wy qu L h i) : ∀ x, x ∈ L → x < 2 ^ N ∧ pt x = true := B.2.2.1
theorem BF.b3 {pt : Nat → Bool} {N f : Nat} {st wy qu : Nat → Int32} {L : List Nat} {h i : Nat} (B : BF pt N f st wy qu L h i) : ∀ x, x ∈ L → st x = nI (dl f x) := B.2.2.2.1
theorem BF.b3' {pt : Nat → Bool} {N f : Nat} {st wy qu : Nat → Int32} {L : List Nat} {h i : Nat} (B : BF pt N f st wy qu L h i) : ∀ x, x < 2 ^ N → x ∉ L → st x = i32 (-1) := B.2.2.2.2.1
theorem BF.b4 {pt : Nat → Bool} {N f : Nat} {st wy qu : Nat → Int32} {L : List Nat} {h i : Nat} (B : BF pt N f st wy qu L h i) : L[0]? = some f := B.2.2.2.2.2.1
theorem BF.b5 {pt : Nat → Bool} {N f : Nat} {st wy qu : Nat → Int32} {L : List Nat} {h i : Nat} (B : BF pt N f st wy qu L h i) : ∀ (k m x y : Nat), k ≤ m → L[k]? = some x → L[m]? = some y → dl f x ≤ dl f y := B.2.2.2.2.2.2.1
theorem BF.b6 {pt : Nat → Bool} {N f : Nat} {st wy qu : Nat → Int32} {L : List Nat} {h i : Nat} (B : BF pt N f st wy qu L h i) : ∀ x y, x ∈ L → L[h]? = some y → dl f x ≤ dl f y + 1 := B.2.2.2.2.2.2.2.1
theorem BF.b7 {pt : Nat → Bool} {N f : Nat} {st wy qu : Nat → Int32} {L : List Nat} {h i : Nat} (B : BF pt N f st wy qu L h i) : ∀ y j, DD L h i y j → j < N → pt (y ^^^ 2 ^ j) = true → y ^^^ 2 ^ j ∈ L := B.2.2.2.2.2.2.2.2.1
theorem BF.b8 {pt : Nat → Bool} {N f : Nat} {st wy qu : Nat → Int32} {L : List Nat} {h i : Nat} (B : BF pt N f st wy qu L h i) : ∀ x, x < 2 ^ N → wy x = nI ((if x = f then 1 else 0) + wS pt f (DD L h i) x N) := B.2.2.2.2.2.2.2.2.2
theorem nodup_len : ∀ (n : Nat) (L : List Nat), L.Nodup → (∀ x, x ∈ L → x < n) → L.length ≤ n := by
  intro n
  induction n with
  | zero => intro L _ h; cases L with
    | nil => exact Nat.le_refl _
    | cons x L => exact absurd (h x List.mem_cons_self) (Nat.not_lt_zero _)
  | succ n ih =>
    intro L hn h
    have h1 := ih (L.erase n) (hn.erase n) (fun x hx => by
      rw [hn.mem_erase_iff] at hx
      have := h x hx.2
      have := hx.1
      omega)
    have := List.length_erase (a := n) (l := L)
    split at this <;> omega
theorem x2_x2 (x i : Nat) : (x ^^^ 2 ^ i) ^^^ 2 ^ i = x := by rw [Nat.xor_assoc, Nat.xor_self, Nat.xor_zero]
theorem dl_flip {N f x i : Nat} (hN : N ≤ 9) (hf : f < 2 ^ N) (hx : x < 2 ^ N) (hi : i < N) : ((f ^^^ x).testBit i = true → dl f (x ^^^ 2 ^ i) + 1 = dl f x) ∧ ((f ^^^ x).testBit i = false → dl f (x ^^^ 2 ^ i) = dl f x + 1) := by
  have h512 := pow9 hN
  have hc : f ^^^ x < 2 ^ N := Nat.xor_lt_two_pow hf hx
  have hc2 : (f ^^^ x) ^^^ 2 ^ i < 2 ^ N := Nat.xor_lt_two_pow hc (pow_ltN hi)
  unfold dl
  rw [← Nat.xor_assoc]
  constructor
  · intro h
    rw [xor_less h]
    exact pc9_less _ (by omega) i (by omega) h
  · intro h
    have hb : ((f ^^^ x) ^^^ 2 ^ i).testBit i = true := by rw [Nat.testBit_xor, h, Nat.testBit_two_pow]; simp
    have := pc9_less _ (by omega) i (by omega) hb
    rw [← xor_less hb, x2_x2] at this
    exact this.symm
theorem getE_mem {L : List Nat} {k x : Nat} (h : L[k]? = some x) : x ∈ L := List.mem_of_getElem? h
theorem mem_getE {L : List Nat} {x : Nat} (h : x ∈ L) : ∃ k : Nat, L[k]? = some x := List.mem_iff_getElem?.mp h
theorem getE_lt {L : List Nat} {k x : Nat} (h : L[k]? = some x) : k < L.length := (List.getElem?_eq_some_iff.mp h).1
theorem nodup_pos {L : List Nat} (hn : L.Nodup) {k m x : Nat} (h1 : L[k]? = some x) (h2 : L[m]? = some x) : k = m := by
  have a := getE_lt h1
  have b := getE_lt h2
  have c := (List.getElem?_eq_some_iff.mp h1).2
  have d := (List.getElem?_eq_some_iff.mp h2).2
  exact (List.getElem_inj hn).mp (c.trans d.symm)
section
variable {pt : Nat → Bool} {N f : Nat} {st wy qu : Nat → Int32} {L : List Nat} {h i : Nat}
/-- what is no farther than the head, or anything at the end, is found -/
theorem BF.found (B : BF pt N f st wy qu L h i) (hN : N ≤ 9) (hf : f < 2 ^ N) (hnear : ∀ r, r < 2 ^ N → pt r = true → r ≠ f → ∃ i, i < N ∧ (f ^^^ r).testBit i = true ∧ pt (r ^^^ 2 ^ i) = true) : ∀ (m x : Nat), dl f x = m → x < 2 ^ N → pt x = true → (∀ y, L[h]? = some y → dl f x ≤ dl f y) → x ∈ L := by
  intro m
  induction m with
  | zero =>
    intro x hx0 hx hp _
    by_cases e : x = f
    · subst e; exact getE_mem B.b4
    · obtain ⟨j, hj, hb, _⟩ := hnear x hx hp e
      have := (dl_flip hN hf hx hj).1 hb
      omega
  | succ m ih =>
    intro x hxm hx hp hh
    by_cases e : x = f
    · subst e; exact getE_mem B.b4
    · obtain ⟨j, hj, hb, hp2⟩ := hnear x hx hp e
      have h1 := (dl_flip hN hf hx hj).1 hb
      have hy : x ^^^ 2 ^ j < 2 ^ N := Nat.xor_lt_two_pow hx (pow_ltN hj)
      have h2 := ih (x ^^^ 2 ^ j) (by omega) hy hp2 (fun y q => by have := hh y q; omega)
      obtain ⟨k, hk⟩ := mem_getE h2
      have hkh : k < h := by
        apply Classical.byContradiction
        intro q
        have hl : h < L.length := by have := getE_lt hk; omega
        have hhd : L[h]? = some L[h] := List.getElem?_eq_getElem hl
        have q1 := B.b5 h k _ _ (by omega) hhd hk
        have q2 := hh _ hhd
        omega
      have h3 := B.b7 (x ^^^ 2 ^ j) j (Or.inl ⟨k, hkh, hk⟩) hj (by rw [x2_x2]; exact hp)
      rwa [x2_x2] at h3
theorem ga_0 (pt : Nat → Bool) (f : Nat) : ga pt f 0 = 1 := rfl
/-- the number of ways is there, once all that lead there are done -/
theorem BF.ways (B : BF pt N f st wy qu L h i) (hN : N ≤ 9) (hf : f < 2 ^ N) (hpf : pt f = true) {x : Nat} (hx : x < 2 ^ N) (hp : pt x = true) (hd : ∀ j, j < N → (f ^^^ x).testBit j = true → pt (x ^^^ 2 ^ j) = true → DD L h i (x ^^^ 2 ^ j) j) : wy x = nI (ga pt f (f ^^^ x)) := by
  rw [B.b8 x hx]
  congr 1
  by_cases e : x = f
  · subst e
    have : ∀ n, wS pt x (DD L h i) x n = 0 := by
      intro n
      induction n with
      | zero => rfl
      | succ n ih => rw [wS, ih, if_neg]; rintro ⟨_, _, q⟩; rw [Nat.xor_self, Nat.zero_testBit] at q; exact absurd q (by decide)
    rw [this, if_pos rfl, Nat.xor_self, ga_0]
  · have hc : f ^^^ x < 2 ^ N := Nat.xor_lt_two_pow hf hx
    have hc0 : f ^^^ x ≠ 0 := fun q => e (by rw [← Nat.zero_xor f, ← Nat.xor_self x, Nat.xor_assoc, Nat.xor_comm x f, q, Nat.xor_zero])
    have hxx : f ^^^ (f ^^^ x) = x := by rw [← Nat.xor_assoc, Nat.xor_self, Nat.zero_xor]
    rw [if_neg e, Nat.zero_add, ga_step hN hc hc0, hxx, if_pos hp]
    have : ∀ n, n ≤ N → wS pt f (DD L h i) x n = gaS (ga pt f) (f ^^^ x) n := by
      intro n
      induction n with
      | zero => intro _; rfl
      | succ n ih =>
        intro hn
        rw [wS, gaS, ih (by omega)]
        congr 1
        cases hb : (f ^^^ x).testBit n
        · rw [if_neg (fun q => absurd q.2.2 (by decide)), if_neg (by decide)]
        · have e2 : less (f ^^^ x) n = f ^^^ (x ^^^ 2 ^ n) := by rw [← xor_less hb, Nat.xor_assoc]
          rw [if_pos rfl, e2]
          by_cases hq : pt (x ^^^ 2 ^ n) = true
          · rw [if_pos ⟨hd n (by omega) hb hq, hp, rfl⟩]
          · have hy : x ^^^ 2 ^ n < 2 ^ N := Nat.xor_lt_two_pow hx (pow_ltN (by omega))
            have hg : ga pt f (f ^^^ (x ^^^ 2 ^ n)) = 0 := by
              have hc3 : f ^^^ (x ^^^ 2 ^ n) < 2 ^ N := Nat.xor_lt_two_pow hf hy
              have hxx2 : f ^^^ (f ^^^ (x ^^^ 2 ^ n)) = x ^^^ 2 ^ n := by rw [← Nat.xor_assoc, Nat.xor_self, Nat.zero_xor]
              rw [ga_step hN hc3 (fun q => hq (by
                have : x ^^^ 2 ^ n = f := by rw [← hxx2, q, Nat.xor_zero]
                rw [this]; exact hpf)), hxx2, if_neg hq]
            rw [hg]; split <;> rfl
    exact this N (Nat.le_refl _)
theorem wS_ext {D D' : Nat → Nat → Prop} {x : Nat} : ∀ n, (∀ j, j < n → (D (x ^^^ 2 ^ j) j ↔ D' (x ^^^ 2 ^ j) j)) → wS pt f D x n = wS pt f D' x n := by
  intro n
  induction n with
  | zero => intro _; rfl
  | succ n ih =>
    intro q
    rw [wS, wS, ih (fun j hj => q j (by omega))]
    congr 1
    have := q n (by omega)
    by_cases e : D (x ^^^ 2 ^ n) n
    · simp only [e, this.mp e]
    · have e' : ¬ D' (x ^^^ 2 ^ n) n := fun z => e (this.mpr z)
      rw [if_neg (fun z => e z.1), if_neg (fun z => e' z.1)]
/-- the head's own number is there -/
theorem BF.head (B : BF pt N f st wy qu L h i) (hN : N ≤ 9) (hf : f < 2 ^ N) (hpf : pt f = true) (hnear : ∀ r, r < 2 ^ N → pt r = true → r ≠ f → ∃ i, i < N ∧ (f ^^^ r).testBit i = true ∧ pt (r ^^^ 2 ^ i) = true) {x : Nat} (hx : L[h]? = some x) : wy x = nI (ga pt f (f ^^^ x)) := by
  obtain ⟨x1, x2⟩ := B.b2' x (getE_mem hx)
  refine B.ways hN hf hpf x1 x2 (fun j hj hb hp => ?_)
  have h1 := (dl_flip hN hf x1 hj).1 hb
  have hy : x ^^^ 2 ^ j < 2 ^ N := Nat.xor_lt_two_pow x1 (pow_ltN hj)
  obtain ⟨k, hk⟩ := mem_getE (B.found hN hf hnear _ (x ^^^ 2 ^ j) rfl hy hp (fun y q => by rw [hx] at q; cases q; omega))
  left
  refine ⟨k, ?_, hk⟩
  apply Classical.byContradiction
  intro q
  have := B.b5 h k _ _ (by omega) hx hk
  omega
theorem BF.len (B : BF pt N f st wy qu L h i) : L.length ≤ 2 ^ N := nodup_len _ L B.b2 (fun x hx => (B.b2' x hx).1)
/-- one that is new -/
theorem BF.new (B : BF pt N f st wy qu L h i) (hN : N ≤ 9) (hf : f < 2 ^ N) (hnear : ∀ r, r < 2 ^ N → pt r = true → r ≠ f → ∃ i, i < N ∧ (f ^^^ r).testBit i = true ∧ pt (r ^^^ 2 ^ i) = true) {x : Nat} (hx : L[h]? = some x) (hi : i < N) (hp : pt (x ^^^ 2 ^ i) = true) (hno : x ^^^ 2 ^ i ∉ L) : dl f (x ^^^ 2 ^ i) = dl f x + 1 ∧ L.length < 2 ^ N ∧ BF pt N f (upd st (x ^^^ 2 ^ i) (nI (dl f (x ^^^ 2 ^ i)))) wy (upd qu L.length (nI (x ^^^ 2 ^ i))) (L ++ [x ^^^ 2 ^ i]) h i := by
  obtain ⟨x1, x2⟩ := B.b2' x (getE_mem hx)
  have hy : x ^^^ 2 ^ i < 2 ^ N := Nat.xor_lt_two_pow x1 (pow_ltN hi)
  have hl := getE_lt hx
  have hd : dl f (x ^^^ 2 ^ i) = dl f x + 1 := by
    cases hb : (f ^^^ x).testBit i
    · exact (dl_flip hN hf x1 hi).2 hb
    · exfalso
      have h1 := (dl_flip hN hf x1 hi).1 hb
      exact hno (B.found hN hf hnear _ _ rfl hy hp (fun y q => by rw [hx] at q; cases q; omega))
  have hD : ∀ y j, DD (L ++ [x ^^^ 2 ^ i]) h i y j ↔ DD L h i y j := by
    intro y j
    unfold DD
    rw [List.getElem?_append_left hl]
    constructor
    · rintro (⟨k, k1, k2⟩ | k)
      · rw [List.getElem?_append_left (by omega)] at k2; exact Or.inl ⟨k, k1, k2⟩
      · exact Or.inr k
    · rintro (⟨k, k1, k2⟩ | k)
      · exact Or.inl ⟨k, k1, by rw [List.getElem?_append_left (by omega)]; exact k2⟩
      · exact Or.inr k
  have hnd : (L ++ [x ^^^ 2 ^ i]).Nodup := by
    rw [List.nodup_append]
    refine ⟨B.b2, by simp, fun a ha b hb => ?_⟩
    rw [List.mem_singleton] at hb
    intro q
    rw [q, hb] at ha
    exact hno ha
  have hmem : ∀ z, z ∈ L ++ [x ^^^ 2 ^ i] ↔ z ∈ L ∨ z = x ^^^ 2 ^ i := fun z => by rw [List.mem_append, List.mem_singleton]
  have hall : ∀ z, z ∈ L ++ [x ^^^ 2 ^ i] → z < 2 ^ N ∧ pt z = true := fun z hz => by
    rcases (hmem z).mp hz with q | q
    · exact B.b2' z q
    · rw [q]; exact ⟨hy, hp⟩
  have hat : ∀ (k z : Nat), (L ++ [x ^^^ 2 ^ i])[k]? = some z → (k < L.length ∧ L[k]? = some z) ∨ (k = L.length ∧ z = x ^^^ 2 ^ i) := by
    intro k z q
    by_cases e : k < L.length
    · rw [List.getElem?_append_left e] at q; exact Or.inl ⟨e, q⟩
    · have := getE_lt q
      rw [List.length_append, List.length_singleton] at this
      obtain rfl : k = L.length := by omega
      rw [List.getElem?_append_right (Nat.le_refl _), Nat.sub_self] at q
      simp at q
      exact Or.inr ⟨rfl, q.symm⟩
  refine ⟨hd, ?_, ?_⟩
  · have := nodup_len _ _ hnd (fun z hz => (hall z hz).1)
    rw [List.length_append, List.length_singleton] at this
    omega
  · refine ⟨?_, hnd, hall, ?_, ?_, ?_, ?_, ?_, ?_, ?_⟩
    · intro k z q
      rcases hat k z q with ⟨q1, q2⟩ | ⟨q1, q2⟩
      · rw [upd_n _ _ (by omega)]; exact B.b1 k z q2
      · rw [q1, upd_s, q2]
    · intro z hz
      by_cases e : z = x ^^^ 2 ^ i
      · rw [e, upd_s]
      · rw [upd_n _ _ e]
        exact B.b3 z (((hmem z).mp hz).resolve_right e)
    · intro z hz hnz
      rw [upd_n _ _ (fun e => hnz ((hmem z).mpr (Or.inr e)))]
      exact B.b3' z hz (fun q => hnz ((hmem z).mpr (Or.inl q)))
    · rw [List.getElem?_append_left (by omega)]; exact B.b4
    · intro k m y z hkm q1 q2
      rcases hat m z q2 with ⟨m1, m2⟩ | ⟨m1, m2⟩
      · rcases hat k y q1 with ⟨k1, k2⟩ | ⟨k1, k2⟩
        · exact B.b5 k m y z hkm k2 m2
        · omega
      · rcases hat k y q1 with ⟨k1, k2⟩ | ⟨k1, k2⟩
        · rw [m2, hd]; exact B.b6 y x (getE_mem k2) hx
        · rw [m2, k2]; exact Nat.le_refl _
    · intro z y hz q
      rw [List.getElem?_append_left hl, hx] at q
      cases q
      rcases (hmem z).mp hz with e | e
      · exact B.b6 z x e hx
      · rw [e]; omega
    · intro y j q1 q2 q3
      exact (hmem _).mpr (Or.inl (B.b7 y j ((hD y j).mp q1) q2 q3))
    · intro z hz
      rw [B.b8 z hz, wS_ext N (fun j _ => (hD _ j).symm)]
/-- one plane of the head is done -/
theorem BF.did (B : BF pt N f st wy qu L h i) (hN : N ≤ 9) (hf : f < 2 ^ N) (hpf : pt f = true) {x : Nat} (hx : L[h]? = some x) (hi : i < N) (hin : pt (x ^^^ 2 ^ i) = true → x ^^^ 2 ^ i ∈ L) {w : Int32} (hw : w = nI (if pt (x ^^^ 2 ^ i) = true ∧ dl f (x ^^^ 2 ^ i) = dl f x + 1 then ga pt f (f ^^^ x) else 0)) : BF pt N f st (upd wy (x ^^^ 2 ^ i) (wy (x ^^^ 2 ^ i) + w)) qu L h (i + 1) := by
  obtain ⟨x1, x2⟩ := B.b2' x (getE_mem hx)
  have hy : x ^^^ 2 ^ i < 2 ^ N := Nat.xor_lt_two_pow x1 (pow_ltN hi)
  have hD : ∀ y j, DD L h (i + 1) y j ↔ DD L h i y j ∨ (y = x ∧ j = i) := by
    intro y j
    unfold DD
    rw [hx]
    constructor
    · rintro (q | ⟨q1, q2⟩)
      · exact Or.inl (Or.inl q)
      · by_cases e : j = i
        · cases q1; exact Or.inr ⟨rfl, e⟩
        · exact Or.inl (Or.inr ⟨q1, by omega⟩)
    · rintro ((q | ⟨q1, q2⟩) | ⟨q1, q2⟩)
      · exact Or.inl q
      · exact Or.inr ⟨q1, by omega⟩
      · rw [q1, q2]; exact Or.inr ⟨rfl, by omega⟩
  have hnD : ¬ DD L h i x i := by
    rintro (⟨k, k1, k2⟩ | ⟨_, q⟩)
    · have := nodup_pos B.b2 k2 hx; omega
    · omega
  refine ⟨B.b1, B.b2, B.b2', B.b3, B.b3', B.b4, B.b5, B.b6, fun y j q1 q2 q3 => ?_, fun z hz => ?_⟩
  · rcases (hD y j).mp q1 with q | ⟨q, q'⟩
    · exact B.b7 y j q q2 q3
    · subst q; subst q'; exact hin q3
  · by_cases e : z = x ^^^ 2 ^ i
    · subst e
      rw [upd_s, B.b8 _ hy, hw, nI_add]
      congr 1
      have key : ∀ n, n ≤ N → wS pt f (DD L h (i + 1)) (x ^^^ 2 ^ i) n = wS pt f (DD L h i) (x ^^^ 2 ^ i) n + (if i < n then (if pt (x ^^^ 2 ^ i) = true ∧ dl f (x ^^^ 2 ^ i) = dl f x + 1 then ga pt f (f ^^^ x) else 0) else 0) := by
        intro n
        induction n with
        | zero => intro _; rfl
        | succ n ih =>
          intro hn
          rw [wS, wS, ih (by omega)]
          by_cases e : n = i
          · subst e
            rw [if_neg (Nat.lt_irrefl _), if_pos (Nat.lt_succ_self _), x2_x2]
            rw [if_neg (c := DD L h n x n ∧ _) (fun q => hnD q.1)]
            have hbit : (f ^^^ (x ^^^ 2 ^ n)).testBit n = true ↔ dl f (x ^^^ 2 ^ n) = dl f x + 1 := by
              have h1 := dl_flip hN hf x1 hi
              have h2 : (f ^^^ (x ^^^ 2 ^ n)).testBit n = !(f ^^^ x).testBit n := by
                rw [← Nat.xor_assoc, Nat.testBit_xor, Nat.testBit_two_pow]; simp
              rw [h2]
              cases hb : (f ^^^ x).testBit n
              · exact ⟨fun _ => h1.2 hb, fun _ => rfl⟩
              · have := h1.1 hb
                exact ⟨fun q => absurd q (by decide), fun q => by omega⟩
            by_cases e2 : pt (x ^^^ 2 ^ n) = true ∧ dl f (x ^^^ 2 ^ n) = dl f x + 1
            · rw [if_pos ⟨(hD x n).mpr (Or.inr ⟨rfl, rfl⟩), e2.1, hbit.mpr e2.2⟩, if_pos e2]
            · rw [if_neg (fun q => e2 ⟨q.2.1, hbit.mp q.2.2⟩), if_neg e2]
          · have q1 : (i < n + 1) ↔ (i < n) := by omega
            have q2 : DD L h (i + 1) ((x ^^^ 2 ^ i) ^^^ 2 ^ n) n ↔ DD L h i ((x ^^^ 2 ^ i) ^^^ 2 ^ n) n := by
              rw [hD]
              exact ⟨fun q => q.resolve_right (fun z => e z.2), Or.inl⟩
            simp only [q1]
            by_cases e3 : DD L h i ((x ^^^ 2 ^ i) ^^^ 2 ^ n) n ∧ pt (x ^^^ 2 ^ i) = true ∧ (f ^^^ (x ^^^ 2 ^ i)).testBit n = true
            · rw [if_pos e3, if_pos (c := DD L h (i + 1) ((x ^^^ 2 ^ i) ^^^ 2 ^ n) n ∧ _) ⟨q2.mpr e3.1, e3.2⟩]; omega
            · rw [if_neg e3, if_neg (c := DD L h (i + 1) ((x ^^^ 2 ^ i) ^^^ 2 ^ n) n ∧ _) (fun z => e3 ⟨q2.mp z.1, z.2⟩)]; omega
      rw [key N (Nat.le_refl _), if_pos hi, Nat.add_assoc]
    · rw [upd_n _ _ e, B.b8 z hz, wS_ext N (fun j _ => ?_)]
      rw [hD]
      exact ⟨Or.inl, fun q => q.resolve_right (fun ⟨q1, q2⟩ => e (by rw [← q1, q2, x2_x2]))⟩
theorem BF.next (B : BF pt N f st wy qu L h N) (hh : h < L.length) : BF pt N f st wy qu L (h + 1) 0 := by
  have hhd : L[h]? = some L[h] := List.getElem?_eq_getElem hh
  have hD : ∀ y j, j < N → (DD L (h + 1) 0 y j ↔ DD L h N y j) := by
    intro y j hj
    unfold DD
    constructor
    · rintro (⟨k, k1, k2⟩ | ⟨_, q⟩)
      · by_cases e : k = h
        · subst e; exact Or.inr ⟨k2, hj⟩
        · exact Or.inl ⟨k, by omega, k2⟩
      · omega
    · rintro (⟨k, k1, k2⟩ | ⟨q, _⟩)
      · exact Or.inl ⟨k, by omega, k2⟩
      · exact Or.inl ⟨h, by omega, q⟩
  refine ⟨B.b1, B.b2, B.b2', B.b3, B.b3', B.b4, B.b5, fun x y hx q => ?_, fun y j q1 q2 q3 => B.b7 y j ((hD y j q2).mp q1) q2 q3, fun x hx => ?_⟩
  · have h1 := B.b6 x _ hx hhd
    have h2 := B.b5 h (h + 1) _ _ (by omega) hhd q
    omega
  · rw [B.b8 x hx, wS_ext N (fun j hj => (hD _ j hj).symm)]
/-- at the end -/
theorem BF.fin (B : BF pt N f st wy qu L L.length 0) (hN : N ≤ 9) (hf : f < 2 ^ N) (hpf : pt f = true) (hnear : ∀ r, r < 2 ^ N → pt r = true → r ≠ f → ∃ i, i < N ∧ (f ^^^ r).testBit i = true ∧ pt (r ^^^ 2 ^ i) = true) {x : Nat} (hx : x < 2 ^ N) (hp : pt x = true) : st x = nI (dl f x) ∧ wy x = nI (ga pt f (f ^^^ x)) := by
  have hn : ∀ y, L[L.length]? ≠ some y := fun y q => by have := getE_lt q; omega
  have hall : ∀ y, y < 2 ^ N → pt y = true → y ∈ L := fun y hy hp => B.found hN hf hnear _ y rfl hy hp (fun z q => absurd q (hn z))
  refine ⟨B.b3 x (hall x hx hp), B.ways hN hf hpf hx hp (fun j hj hb hp2 => ?_)⟩
  obtain ⟨k, hk⟩ := mem_getE (hall _ (Nat.xor_lt_two_pow hx (pow_ltN hj)) hp2)
  exact Or.inl ⟨k, getE_lt hk, hk⟩
end
theorem BF.start {pt : Nat → Bool} {N f : Nat} {st wy qu : Nat → Int32} (hf : f < 2 ^ N) (hpf : pt f = true) (h1 : ∀ x, x < 2 ^ N → st x = i32 (-1)) (h2 : ∀ x, x < 2 ^ N → wy x = nI 0) : BF pt N f (upd st f (nI 0)) (upd wy f (nI 1)) (upd qu 0 (nI f)) [f] 0 0 := by
  have at0 : ∀ (k x : Nat), [f][k]? = some x → k = 0 ∧ x = f := fun k x q => by
    have := getE_lt q
    rw [List.length_singleton] at this
    obtain rfl : k = 0 := by omega
    simp at q
    exact ⟨rfl, q.symm⟩
  have hd : dl f f = 0 := by unfold dl; rw [Nat.xor_self]; rfl
  have hD : ∀ y j, ¬ DD [f] 0 0 y j := by
    rintro y j (⟨k, k1, _⟩ | ⟨_, q⟩) <;> omega
  refine ⟨fun k x q => ?_, by simp, fun x hx => ?_, fun x hx => ?_, fun x hx hn => ?_, rfl, fun k m x y _ q1 q2 => ?_, fun x y hx q => ?_, fun y j q => absurd q (hD y j), fun x hx => ?_⟩
  · obtain ⟨rfl, rfl⟩ := at0 k x q; rw [upd_s]
  · rw [List.mem_singleton.mp hx]; exact ⟨hf, hpf⟩
  · rw [List.mem_singleton.mp hx, upd_s, hd]
  · rw [upd_n _ _ (fun e => hn (List.mem_singleton.mpr e))]; exact h1 x hx
  · rw [(at0 k x q1).2, (at0 m y q2).2]; exact Nat.le_refl _
  · rw [List.mem_singleton.mp hx, (at0 _ y q).2]; omega
  · have hw : ∀ n, wS pt f (DD [f] 0 0) x n = 0 := by
      intro n
      induction n with
      | zero => rfl
      | succ n ih => rw [wS, ih, if_neg (fun q => hD _ _ q.1)]
    rw [hw]
    by_cases e : x = f
    · rw [e, upd_s, if_pos rfl]
    · rw [upd_n _ _ e, if_neg e]; exact h2 x hx
