-- the reference's searches
def lat (S : PS) (p k : Nat) : Nat → Nat → Bool
  | 0, _ => false
  | n + 1, j => if j < ssz S ∧ slo S j = slo S k ∧ sso S j = sso S k then (rel (sop S p) (sky S j) (spy S p) || lat S p k n (bhd S j)) else false
def later (S : PS) (k p : Nat) : Bool := lat S p k (ssz S) (bhd S k)
def cb (c : Nat) (b : Int32) : Bool := decide (¬ (nI c &&& b) = 0)
def fp1 (S : PS) (i : Nat) (pos : Option Nat) (p : Nat) : Bool := match okd S (some i) (spk S p) with
  | none => false
  | some k => rel (sop S p) (sky S k) (spy S p) && (!(cb (scd S p) 1) || !(later S k p)) && (!(cb (scd S p) 2) || decide (okd S pos (spk S p) = some k))
def fa (S : PS) (i : Nat) (pos : Option Nat) : Nat → Bool
  | 0 => true
  | p + 1 => fa S i pos p && fp1 S i pos p
def fit (S : PS) (i n : Nat) (pos : Option Nat) : Bool := (n == 0 || sso S i == spk S (n - 1)) && fa S i pos n
def fs1 (f : Nat → Bool) : Nat → Nat → Option Nat
  | 0, _ => none
  | c + 1, i => if f i = true then some i else fs1 f c (i + 1)
def frst (S : PS) (a b n : Nat) (pos : Option Nat) : Option Nat := fs1 (fun i => fit S i n pos) (b - a) a
def blw (f : Nat → Nat) (o : Nat) : Nat → Nat → Bool
  | 0, _ => false
  | n + 1, k => if k = 0 then false else if k = o then true else blw f o n (f k)
def isb (S : PS) (a b : Nat) : Bool := blw (sab S) b 21 (sab S a)
def af (S : PS) : Nat → Bool
  | 0 => true
  | p + 1 => af S p && (p == 0 || isb S (spk S p) (spk S (p - 1)))
theorem lat_fuel {S : PS} {p k : Nat} : ∀ (n m j : Nat), ssz S ≤ j + n → ssz S ≤ j + m → lat S p k n j = lat S p k m j
  | 0, 0, j, _, _ => rfl
  | 0, m + 1, j, h, _ => by rw [lat, lat, if_neg (by omega)]
  | n + 1, 0, j, _, h => by rw [lat, lat, if_neg (by omega)]
  | n + 1, m + 1, j, h1, h2 => by
    rw [lat, lat]
    split
    · have := bhd_lt S j
      rw [lat_fuel n m (bhd S j) (by omega) (by omega)]
    · rfl
theorem fs1_lt {f : Nat → Bool} : ∀ {c i j : Nat}, fs1 f c i = some j → i ≤ j ∧ j < i + c ∧ f j = true
  | 0, i, j, h => by cases h
  | c + 1, i, j, h => by
    rw [fs1] at h
    split at h
    · rename_i e
      cases h
      exact ⟨Nat.le_refl _, by omega, e⟩
    · obtain ⟨a, b, d⟩ := fs1_lt h
      exact ⟨by omega, by omega, d⟩
theorem okd_lt {S : PS} {i k kd : Nat} (h : okd S (some i) kd = some k) : k ≤ i ∧ sso S k = kd ∧ k = ov (slo S) (slv S kd) i ∧ slv S kd ≤ slo S i := by
  unfold okd ovr at h
  by_cases c : slo S i < slv S kd
  · simp [c] at h
  · simp only [c, if_false] at h
    split at h
    · rename_i e
      cases h
      exact ⟨ov_le _, e, rfl, by omega⟩
    · cases h
