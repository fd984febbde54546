/-! pure words: sets as ints, counts, and their laws; the family 'Int32 by its bits' of kit/laws is pasted ahead -/
def bt (x : Int32) (i : Nat) : Bool := x.toBitVec.getLsbD i
theorem b_ext {x y : Int32} (h : ∀ i, i < 32 → bt x i = bt y i) : x = y := Int32.toBitVec_inj.mp (BitVec.eq_of_getLsbD_eq (fun i hi => h i hi))
theorem b_or (x y : Int32) (i : Nat) : bt (x ||| y) i = (bt x i || bt y i) := by unfold bt; rw [Int32.toBitVec_or, BitVec.getLsbD_or]
theorem b_and (x y : Int32) (i : Nat) : bt (x &&& y) i = (bt x i && bt y i) := by unfold bt; rw [Int32.toBitVec_and, BitVec.getLsbD_and]
theorem b_xor (x y : Int32) (i : Nat) : bt (x ^^^ y) i = (bt x i ^^ bt y i) := by unfold bt; rw [Int32.toBitVec_xor, BitVec.getLsbD_xor]
theorem b_big {x : Int32} {i : Nat} (h : 32 ≤ i) : bt x i = false := BitVec.getLsbD_of_ge _ _ h
theorem b_m1 : ∀ i, i < 32 → bt (-1) i = true := by decide +kernel
theorem b_0 (i : Nat) : bt 0 i = false := BitVec.getLsbD_zero
theorem s_l : ∀ n, n < 32 → ((nI n &&& 31).toBitVec.smod 32).toNat = n := by decide +kernel
theorem b_shl (n : Nat) (hn : n < 32) (x : Int32) {i : Nat} (hi : i < 32) : bt (x <<< (nI n &&& 31)) i = (decide (n ≤ i) && bt x (i - n)) := by
  unfold bt
  rw [Int32.toBitVec_shiftLeft]
  show (x.toBitVec <<< ((nI n &&& 31).toBitVec.smod 32).toNat).getLsbD i = _
  rw [s_l n hn, BitVec.getLsbD_shiftLeft]
  rcases Nat.lt_or_ge i n with h | h
  · simp [h, Nat.not_le.mpr h]
  · simp [hi, h, Nat.not_lt.mpr h]
theorem b_sshr (n : Nat) (hn : n < 32) (x : Int32) {i : Nat} (hi : i < 32) : bt (x >>> (nI n &&& 31)) i = if n + i < 32 then bt x (n + i) else bt x 31 := by
  unfold bt
  rw [Int32.toBitVec_shiftRight]
  show (x.toBitVec.sshiftRight ((nI n &&& 31).toBitVec.smod 32).toNat).getLsbD i = _
  rw [s_l n hn, BitVec.getLsbD_sshiftRight, BitVec.msb_eq_getLsbD_last]
  simp [hi]
/-! the words -/
def bb_hb (s : Int32) (j : Nat) : Bool := decide ((s >>> (nI j &&& 31)) &&& 1 = 1)
def bb_I (b : Bool) : Int32 := if b = true then 1 else 0
def bb_ws (w : Nat → Int32) (s : Int32) : Nat → Int32
  | 0 => 0
  | j + 1 => if bb_hb s j = true then bb_ws w s j + w j else bb_ws w s j
def bb_en (w : Nat → Int32) (k s : Int32) : Bool := decide (k ≤ bb_ws w s 10)
def bb_cn (p : Nat → Bool) : Nat → Nat
  | 0 => 0
  | j + 1 => if p j = true then bb_cn p j + 1 else bb_cn p j
def bb_al (p : Nat → Bool) : Nat → Bool
  | 0 => true
  | j + 1 => bb_al p j && p j
def bb_bl (p : Nat → Bool) : Nat → Int32
  | 0 => 0
  | j + 1 => if p j = true then bb_bl p j ||| ((1 : Int32) <<< (nI j &&& 31)) else bb_bl p j
def bb_la (p : Nat → Bool) : Nat → Int32
  | 0 => -1
  | j + 1 => if p j = true then nI j else bb_la p j
def bb_fi (p : Nat → Bool) : Nat → Int32
  | 0 => -1
  | j + 1 => if (bb_al (fun i => !p i) j && p j) = true then nI j else bb_fi p j
def bb_sm (f : Nat → Nat) : Nat → Nat
  | 0 => 0
  | j + 1 => bb_sm f j + f j
theorem bb_I_t : bb_I true = 1 := rfl
theorem bb_I_f : bb_I false = 0 := rfl
theorem bb_I_0 {b : Bool} : bb_I b = 0 ↔ b = false := by cases b <;> simp [bb_I] <;> decide
theorem bb_I_1 {b : Bool} : bb_I b = 1 ↔ b = true := by cases b <;> simp [bb_I] <;> decide
theorem bb_I_or (a b : Bool) : bb_I a ||| bb_I b = bb_I (a || b) := by cases a <;> cases b <;> decide
theorem bb_al_iff {p : Nat → Bool} {n : Nat} : bb_al p n = true ↔ ∀ i, i < n → p i = true := by
  induction n with
  | zero => simp [bb_al]
  | succ n ih =>
    simp only [bb_al, Bool.and_eq_true, ih]
    constructor
    · intro ⟨h1, h2⟩ i hi
      rcases Nat.lt_or_ge i n with h | h
      · exact h1 i h
      · have : i = n := by omega
        subst this; exact h2
    · intro h
      exact ⟨fun i hi => h i (by omega), h n (by omega)⟩
theorem bb_al_no {p : Nat → Bool} {n j : Nat} (h : p j = false) (hj : j < n) : bb_al p n = false := by
  cases hh : bb_al p n with
  | false => rfl
  | true => rw [bb_al_iff] at hh; rw [hh j hj] at h; cases h
theorem bb_al_mono {p : Nat → Bool} {n j : Nat} (h : bb_al p j = false) (hj : j ≤ n) : bb_al p n = false := by
  cases hh : bb_al p n with
  | false => rfl
  | true =>
    rw [bb_al_iff] at hh
    have : bb_al p j = true := bb_al_iff.mpr (fun i hi => hh i (by omega))
    rw [this] at h; cases h
theorem bb_al_congr {p q : Nat → Bool} {n : Nat} (h : ∀ i, i < n → p i = q i) : bb_al p n = bb_al q n := by
  induction n with
  | zero => rfl
  | succ n ih => simp only [bb_al]; rw [ih (fun i hi => h i (by omega)), h n (by omega)]
theorem bb_fi_hit {p : Nat → Bool} {n j : Nat} (h0 : bb_al (fun i => !p i) j = true) (h : p j = true) (hj : j < n) : bb_fi p n = nI j := by
  induction n with
  | zero => omega
  | succ n ih =>
    rcases Nat.lt_or_ge j n with h1 | h1
    · have : bb_al (fun i => !p i) n = false := bb_al_no (j := j) (by simp [h]) h1
      simp only [bb_fi, this, Bool.false_and]
      simpa using ih h1
    · have : j = n := by omega
      subst this
      simp only [bb_fi, h0, h, Bool.and_self, if_true]
theorem bb_fi_none {p : Nat → Bool} {n : Nat} (h0 : bb_al (fun i => !p i) n = true) : bb_fi p n = -1 := by
  induction n with
  | zero => rfl
  | succ n ih =>
    simp only [bb_al, Bool.and_eq_true, Bool.not_eq_true'] at h0
    simp only [bb_fi, h0.2, Bool.and_false]
    simpa using ih h0.1
theorem bb_fi_congr {p q : Nat → Bool} {n : Nat} (h : ∀ i, i < n → p i = q i) : bb_fi p n = bb_fi q n := by
  induction n with
  | zero => rfl
  | succ n ih =>
    have h1 : bb_al (fun i => !p i) n = bb_al (fun i => !q i) n := bb_al_congr (fun i hi => by rw [h i (by omega)])
    simp only [bb_fi]
    rw [ih (fun i hi => h i (by omega)), h n (by omega), h1]
theorem bb_cn_congr {p q : Nat → Bool} {n : Nat} (h : ∀ i, i < n → p i = q i) : bb_cn p n = bb_cn q n := by
  induction n with
  | zero => rfl
  | succ n ih => simp only [bb_cn]; rw [ih (fun i hi => h i (by omega)), h n (by omega)]
theorem bb_cn_le (p : Nat → Bool) (n : Nat) : bb_cn p n ≤ n := by
  induction n with
  | zero => exact Nat.le_refl _
  | succ n ih => simp only [bb_cn]; split <;> omega
theorem bb_bl_congr {p q : Nat → Bool} {n : Nat} (h : ∀ i, i < n → p i = q i) : bb_bl p n = bb_bl q n := by
  induction n with
  | zero => rfl
  | succ n ih => simp only [bb_bl]; rw [ih (fun i hi => h i (by omega)), h n (by omega)]
theorem bb_la_congr {p q : Nat → Bool} {n : Nat} (h : ∀ i, i < n → p i = q i) : bb_la p n = bb_la q n := by
  induction n with
  | zero => rfl
  | succ n ih => simp only [bb_la]; rw [ih (fun i hi => h i (by omega)), h n (by omega)]
theorem bb_ws_congr {w : Nat → Int32} {s t : Int32} {n : Nat} (h : ∀ i, i < n → bb_hb s i = bb_hb t i) : bb_ws w s n = bb_ws w t n := by
  induction n with
  | zero => rfl
  | succ n ih => simp only [bb_ws]; rw [ih (fun i hi => h i (by omega)), h n (by omega)]
theorem bb_en_congr {w : Nat → Int32} {k s t : Int32} (h : ∀ i, i < 10 → bb_hb s i = bb_hb t i) : bb_en w k s = bb_en w k t := by
  unfold bb_en; rw [bb_ws_congr h]
theorem bb_sm_congr {f g : Nat → Nat} {n : Nat} (h : ∀ i, i < n → f i = g i) : bb_sm f n = bb_sm g n := by
  induction n with
  | zero => rfl
  | succ n ih => simp only [bb_sm]; rw [ih (fun i hi => h i (by omega)), h n (by omega)]
theorem bb_sm_0 (n : Nat) : bb_sm (fun _ => 0) n = 0 := by
  induction n with
  | zero => rfl
  | succ n ih => simp only [bb_sm, ih]
theorem bb_sm_add (f g : Nat → Nat) (n : Nat) : bb_sm (fun i => f i + g i) n = bb_sm f n + bb_sm g n := by
  induction n with
  | zero => rfl
  | succ n ih => simp only [bb_sm, ih]; omega
theorem bb_sm_swap (f : Nat → Nat → Nat) (a b : Nat) : bb_sm (fun i => bb_sm (fun j => f i j) b) a = bb_sm (fun j => bb_sm (fun i => f i j) a) b := by
  induction a with
  | zero => simp only [bb_sm, bb_sm_0]
  | succ a ih => simp only [bb_sm, ih]; rw [← bb_sm_add]
theorem bb_cn_sm (p : Nat → Bool) (n : Nat) : bb_cn p n = bb_sm (fun i => if p i = true then 1 else 0) n := by
  induction n with
  | zero => rfl
  | succ n ih => simp only [bb_cn, bb_sm, ih]; split <;> omega
theorem bb_cn_add (p : Nat → Bool) (a b : Nat) : bb_cn p (a + b) = bb_cn p a + bb_cn (fun i => p (a + i)) b := by
  induction b with
  | zero => rfl
  | succ b ih => rw [← Nat.add_assoc]; simp only [bb_cn, ih]; split <;> omega
theorem bb_cn_block (p : Nat → Bool) (n : Nat) : bb_cn p (31 * n) = bb_sm (fun i => bb_cn (fun b => p (31 * i + b)) 31) n := by
  induction n with
  | zero => rfl
  | succ n ih => rw [show 31 * (n + 1) = 31 * n + 31 by omega, bb_cn_add, ih]; rfl
/-! bits -/
theorem bb_b1 : ∀ i, i < 32 → bt 1 i = decide (i = 0) := by decide +kernel
theorem bb_and1 {x : Int32} : x &&& 1 = 1 ↔ bt x 0 = true := by
  constructor
  · intro h
    have h1 := congrArg (fun z => bt z 0) h
    simp only [b_and, bb_b1 0 (by omega)] at h1
    simpa using h1
  · intro h
    apply b_ext
    intro i hi
    rw [b_and, bb_b1 i hi]
    by_cases h0 : i = 0
    · subst h0; simp [h]
    · simp [h0]
theorem bb_hb_bt {s : Int32} {j : Nat} (hj : j < 32) : bb_hb s j = bt s j := by
  unfold bb_hb
  have h : ((s >>> (nI j &&& 31)) &&& 1 = 1) ↔ bt s j = true := by
    rw [bb_and1, b_sshr j hj s (by omega)]
    simp [hj]
  by_cases hb : bt s j = true
  · rw [decide_eq_true (h.mpr hb), hb]
  · rw [decide_eq_false (fun z => hb (h.mp z))]
    simpa using hb
theorem bb_hb_or {x y : Int32} {j : Nat} (hj : j < 32) : bb_hb (x ||| y) j = (bb_hb x j || bb_hb y j) := by
  rw [bb_hb_bt hj, bb_hb_bt hj, bb_hb_bt hj, b_or]
theorem bb_hb_and {x y : Int32} {j : Nat} (hj : j < 32) : bb_hb (x &&& y) j = (bb_hb x j && bb_hb y j) := by
  rw [bb_hb_bt hj, bb_hb_bt hj, bb_hb_bt hj, b_and]
/-- the rest of a set; a name, for simp has another form of it -/
def bb_not (x : Int32) : Int32 := x ^^^ (-1)
theorem bb_hb_not {x : Int32} {j : Nat} (hj : j < 32) : bb_hb (bb_not x) j = !bb_hb x j := by
  unfold bb_not
  rw [bb_hb_bt hj, bb_hb_bt hj, b_xor, b_m1 j hj]; simp
theorem bb_hb_0 {j : Nat} (hj : j < 32) : bb_hb 0 j = false := by rw [bb_hb_bt hj, b_0]
theorem bb_hb_1023 : ∀ j, j < 10 → bb_hb 1023 j = true := by decide +kernel
theorem bb_hb_one {n j : Nat} (hn : n < 32) (hj : j < 32) : bb_hb ((1 : Int32) <<< (nI n &&& 31)) j = decide (j = n) := by
  rw [bb_hb_bt hj, b_shl n hn 1 hj, bb_b1 _ (by omega)]
  by_cases h : j = n
  · subst h; simp
  · rw [decide_eq_false h]
    by_cases h2 : n ≤ j
    · rw [decide_eq_false (by omega : ¬ (j - n = 0))]; simp
    · rw [decide_eq_false h2]; simp
theorem bb_hb_bl {p : Nat → Bool} {n j : Nat} (hn : n ≤ 31) (hj : j < 32) : bb_hb (bb_bl p n) j = (decide (j < n) && p j) := by
  induction n with
  | zero => simp [bb_bl, bb_hb_0 hj]
  | succ n ih =>
    simp only [bb_bl]
    have ih := ih (by omega)
    by_cases hp : p n = true
    · rw [if_pos hp, bb_hb_or hj, ih, bb_hb_one (by omega) hj]
      rcases Nat.lt_trichotomy j n with h | h | h
      · simp [h, Nat.lt_succ_of_lt h, show ¬ j = n by omega]
      · subst h; simp [hp]
      · simp [Nat.not_lt.mpr (Nat.le_of_lt h), show ¬ j = n by omega, show ¬ j < n + 1 by omega]
    · rw [if_neg hp, ih]
      rcases Nat.lt_trichotomy j n with h | h | h
      · simp [h, Nat.lt_succ_of_lt h]
      · subst h; simp at hp; simp [hp]
      · simp [Nat.not_lt.mpr (Nat.le_of_lt h), show ¬ j < n + 1 by omega]
theorem bb_hb_bl10 {p : Nat → Bool} {j : Nat} (hj : j < 10) : bb_hb (bb_bl p 10) j = p j := by
  rw [bb_hb_bl (by omega) (by omega)]; simp [hj]
/-- a set: an int below 1024 -/
def bb_lo (x : Int32) : Prop := ∀ i, 10 ≤ i → i < 32 → bt x i = false
theorem bb_lo_of {a : Nat} (h : a < 1024) : bb_lo (nI a) := by
  intro i h1 h2
  unfold bt
  show (BitVec.ofNat 32 a).getLsbD i = false
  rw [BitVec.getLsbD_ofNat]
  have h3 : a < 2 ^ i := Nat.lt_of_lt_of_le h (by show 2 ^ 10 ≤ 2 ^ i; exact Nat.pow_le_pow_right (by omega) h1)
  simp [Nat.testBit_lt_two_pow h3]
theorem bb_lo_to {x : Int32} (h : bb_lo x) : ∃ a : Nat, a < 1024 ∧ x = nI a := by
  refine ⟨x.toBitVec.toNat, ?_, ?_⟩
  · show _ < 2 ^ 10
    refine Nat.lt_pow_two_of_testBit _ (fun i hi => ?_)
    rw [BitVec.testBit_toNat]
    rcases Nat.lt_or_ge i 32 with h2 | h2
    · exact h i hi h2
    · exact BitVec.getLsbD_of_ge _ _ h2
  · apply Int32.toBitVec_inj.mp
    show x.toBitVec = BitVec.ofNat 32 x.toBitVec.toNat
    simp
theorem bb_lo_or {x y : Int32} (hx : bb_lo x) (hy : bb_lo y) : bb_lo (x ||| y) := fun i h1 h2 => by rw [b_or, hx i h1 h2, hy i h1 h2]; rfl
theorem bb_lo_and {x y : Int32} (hx : bb_lo x) : bb_lo (x &&& y) := fun i h1 h2 => by rw [b_and, hx i h1 h2]; rfl
theorem bb_lo_0 : bb_lo 0 := fun i _ _ => b_0 i
theorem bb_lo_one {n : Nat} (hn : n < 10) : bb_lo ((1 : Int32) <<< (nI n &&& 31)) := fun i h1 h2 => by
  rw [← bb_hb_bt h2, bb_hb_one (by omega) h2, decide_eq_false (by omega)]
theorem bb_lo_bl {p : Nat → Bool} {n : Nat} (hn : n ≤ 10) : bb_lo (bb_bl p n) := fun i h1 h2 => by
  rw [← bb_hb_bt h2, bb_hb_bl (by omega) h2, decide_eq_false (by omega)]; rfl
theorem bb_ext10 {x y : Int32} (hx : bb_lo x) (hy : bb_lo y) (h : ∀ i, i < 10 → bb_hb x i = bb_hb y i) : x = y := by
  apply b_ext
  intro i hi
  rcases Nat.lt_or_ge i 10 with h1 | h1
  · rw [← bb_hb_bt hi, ← bb_hb_bt hi]; exact h i h1
  · rw [hx i h1 hi, hy i h1 hi]
theorem bb_lo_ne0 {x : Int32} (hx : bb_lo x) : x ≠ 0 ↔ ∃ i, i < 10 ∧ bb_hb x i = true := by
  constructor
  · intro h
    apply Classical.byContradiction
    intro hn
    apply h
    refine bb_ext10 hx bb_lo_0 (fun i hi => ?_)
    rw [bb_hb_0 (by omega)]
    cases hb : bb_hb x i with
    | false => rfl
    | true => exact absurd ⟨i, hi, hb⟩ hn
  · intro ⟨i, hi, hb⟩ h
    rw [h, bb_hb_0 (by omega)] at hb
    cases hb
theorem bb_hb_nI {x j : Nat} (hx : x < 2 ^ 31) (hj : j < 32) : bb_hb (nI x) j = decide (x / 2 ^ j % 2 = 1) := by
  unfold bb_hb
  have h1 : x / 2 ^ j ≤ x := Nat.div_le_self _ _
  rw [pk_shrN hx _ j (s_l j hj), pk_andN (by omega) (m := 1) 1 (by decide)]
  have h2 : (nI (x / 2 ^ j % 2 ^ 1) = 1) ↔ x / 2 ^ j % 2 = 1 := by
    show nI (x / 2 ^ j % 2 ^ 1) = nI 1 ↔ _
    rw [nI_eq (by omega) (by omega)]
  by_cases h : x / 2 ^ j % 2 = 1
  · rw [decide_eq_true (h2.mpr h), decide_eq_true h]
  · rw [decide_eq_false (fun z => h (h2.mp z)), decide_eq_false h]
/-! Integer.bitCount, as its code has it -/
def bb_ur (x y : Int32) : Int32 := (x.toUInt32 >>> (y.toUInt32 &&& Int32.toUInt32 31)).toInt32
def bb_p1 (i : Int32) : Int32 := i - (bb_ur i 1 &&& 1431655765)
def bb_p2 (i : Int32) : Int32 := (i &&& 858993459) + (bb_ur i 2 &&& 858993459)
def bb_p3 (i : Int32) : Int32 := (i + bb_ur i 4) &&& 252645135
def bb_p4 (i : Int32) : Int32 := i + bb_ur i 8
def bb_p5 (i : Int32) : Int32 := i + bb_ur i 16
def bb_bc (i : Int32) : Int32 := bb_p5 (bb_p4 (bb_p3 (bb_p2 (bb_p1 i)))) &&& 63
def bb_pc (x : Nat) : Nat := x % 2 + x / 2 % 2 + x / 4 % 2 + x / 8 % 2 + x / 16 % 2 + x / 32 % 2 + x / 64 % 2 + x / 128 % 2 + x / 256 % 2 + x / 512 % 2
theorem bb_bc_all : ∀ x, x < 1024 → bb_bc (nI x) = nI (bb_pc x) := by decide +kernel
theorem bb_if2 (x : Nat) : (if decide (x % 2 = 1) = true then 1 else 0) = x % 2 := by
  have : x % 2 < 2 := Nat.mod_lt _ (by omega)
  by_cases h : x % 2 = 1
  · simp [h]
  · have : x % 2 = 0 := by omega
    simp [this]
theorem bb_bc_ok {x : Int32} (hx : bb_lo x) : bb_bc x = nI (bb_cn (bb_hb x) 10) := by
  obtain ⟨a, ha, rfl⟩ := bb_lo_to hx
  rw [bb_bc_all a ha, bb_cn_congr (q := fun j => decide (a / 2 ^ j % 2 = 1)) (fun i hi => bb_hb_nI (by omega) (by omega)), bb_cn_sm]
  simp only [bb_sm, bb_if2, bb_pc, Nat.pow_zero, Nat.div_one, Nat.reducePow, Nat.zero_add]
