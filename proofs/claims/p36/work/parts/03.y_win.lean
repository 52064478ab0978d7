/-! ===== decode at a place, from the three bytes there: the code as one number ===== -/
def z_un : Nat → Nat → List UInt8
  | 0, _ => []
  | n + 1, N => UInt8.ofNat N :: z_un n (N / 256)
theorem z_un_len : ∀ n N : Nat, (z_un n N).length = n := by
  intro n
  induction n with
  | zero => intro _; rfl
  | succ n ih => intro N; show (z_un n (N / 256)).length + 1 = n + 1; rw [ih]
theorem z_un_get : ∀ n N i : Nat, i < n → (z_un n N)[i]? = some (UInt8.ofNat (N / 256 ^ i)) := by
  intro n
  induction n with
  | zero => intro N i h; exact absurd h (Nat.not_lt_zero _)
  | succ n ih =>
    intro N i h
    match i with
    | 0 => show some (UInt8.ofNat N) = _; rw [Nat.pow_zero, Nat.div_one]
    | i + 1 =>
      show (z_un n (N / 256))[i]? = _
      rw [ih _ _ (by omega), Nat.div_div_eq_div_mul, Nat.pow_succ, Nat.mul_comm]
def z_ag (c w : ByteArray) (p : Nat) : Prop := ∀ q (h : q < w.size), ∃ h2 : p + q < c.size, c[p + q]'h2 = w[q]'h
abbrev z_D (a : Type) : Type := ClassFile.Decoder a
def z_Sm {a : Type} (c w : ByteArray) (p : Nat) (r r' : z_D a) : Prop := ∀ q v q', r' w q = Except.ok (v, q') → r c (p + q) = Except.ok (v, p + q')
theorem z_u1v {c : ByteArray} {p : Nat} (h : p < c.size) : (ClassFile.Reader.u1 : z_D Nat) c p = Except.ok ((c[p]'h).toNat, p + 1) := by
  show (dite (p < c.size) (fun h => _) (fun h => _) : z_D Nat) c p = _
  rw [dif_pos h]
  rfl
theorem z_u1n {c : ByteArray} {p : Nat} (h : ¬ p < c.size) : ∃ e, (ClassFile.Reader.u1 : z_D Nat) c p = Except.error e := by
  refine ⟨ClassFile.HasTruncated.truncated p, ?_⟩
  show (dite (p < c.size) (fun h => _) (fun h => _) : z_D Nat) c p = _
  rw [dif_neg h]
  rfl
theorem z_pure {a : Type} {c w : ByteArray} {p : Nat} {v : a} : z_Sm c w p (pure v) (pure v) := by
  intro q v2 q2 h
  have e : (Except.ok (v, q) : Except ClassFile.DecodeError (a × Nat)) = Except.ok (v2, q2) := h
  injection e with e
  injection e with e1 e2
  rw [← e1, ← e2]; rfl
theorem z_bind {a b : Type} {c w : ByteArray} {p : Nat} {r r' : z_D a} {f f' : a → z_D b} (h1 : z_Sm c w p r r') (h2 : ∀ v, z_Sm c w p (f v) (f' v)) : z_Sm c w p (r >>= f) (r' >>= f') := by
  intro q v q' h
  have e : (r' >>= f') w q = Except.bind (r' w q) (fun x => f' x.1 w x.2) := rfl
  have e2 : (r >>= f) c (p + q) = Except.bind (r c (p + q)) (fun x => f x.1 c x.2) := rfl
  rw [e] at h
  rw [e2]
  cases hr : r' w q with
  | error z => rw [hr] at h; exact absurd h (fun h => by injection h)
  | ok x =>
    rw [hr] at h
    rw [h1 q x.1 x.2 hr]
    exact h2 x.1 x.2 v q' h
theorem z_u1 {c w : ByteArray} {p : Nat} (H : z_ag c w p) : z_Sm c w p (ClassFile.Reader.u1 : z_D Nat) ClassFile.Reader.u1 := by
  intro q v q' h
  by_cases hq : q < w.size
  · rw [z_u1v hq] at h
    obtain ⟨h2, e⟩ := H q hq
    rw [z_u1v h2, e]
    injection h with h
    injection h with h1 h3
    rw [← h1, ← h3]; rfl
  · obtain ⟨e, he⟩ := z_u1n hq
    rw [he] at h
    exact absurd h (fun h => by injection h)
theorem z_u2 {c w : ByteArray} {p : Nat} (H : z_ag c w p) : z_Sm c w p (ClassFile.Reader.u2 : z_D Nat) ClassFile.Reader.u2 := z_bind (z_u1 H) (fun _ => z_bind (z_u1 H) (fun _ => z_pure))
theorem z_map {a b : Type} {c w : ByteArray} {p : Nat} {r r' : z_D a} {g : a → b} (h1 : z_Sm c w p r r') : z_Sm c w p (g <$> r) (g <$> r') := by
  intro q v q' h
  have e : (g <$> r') w q = Except.bind (r' w q) (fun x => Except.ok (g x.1, x.2)) := rfl
  have e2 : (g <$> r) c (p + q) = Except.bind (r c (p + q)) (fun x => Except.ok (g x.1, x.2)) := rfl
  rw [e] at h
  rw [e2]
  cases hr : r' w q with
  | error z => rw [hr] at h; exact absurd h (fun h => by injection h)
  | ok x =>
    rw [hr] at h
    rw [h1 q x.1 x.2 hr]
    have h3 : (Except.ok (g x.1, x.2) : Except ClassFile.DecodeError (b × Nat)) = Except.ok (v, q') := h
    injection h3 with h3
    injection h3 with h4 h5
    rw [← h4, ← h5]; rfl
theorem z_s1 {c w : ByteArray} {p : Nat} (H : z_ag c w p) : z_Sm c w p (ClassFile.Reader.s1 : z_D Int) ClassFile.Reader.s1 := z_map (z_u1 H)
theorem z_s2 {c w : ByteArray} {p : Nat} (H : z_ag c w p) : z_Sm c w p (ClassFile.Reader.s2 : z_D Int) ClassFile.Reader.s2 := z_map (z_u2 H)
/-- what the code's byte b begins is read alike at any place -/
def z_O (b : Nat) : Prop := ∀ (c w : ByteArray) (p pc : Nat), z_ag c w p → ∀ h0 : 0 < w.size, (w[0]'h0).toNat = b → ∀ v q', ClassFile.Decoder.instr 0 w 0 = Except.ok (v, q') → ClassFile.Decoder.instr pc c p = Except.ok (v, p + q')
theorem z_mk {b : Nat} {F : Nat → Nat → z_D ClassFile.Instr} (ef : ∀ pc, ClassFile.Decoder.instr pc = (ClassFile.Reader.u1 : z_D Nat) >>= F pc) (s : ∀ (c w : ByteArray) (p pc : Nat), z_ag c w p → z_Sm c w p (F pc b) (F 0 b)) : z_O b := by
  intro c w p pc H h0 hb v q' h
  obtain ⟨h2, e⟩ := H 0 h0
  have e1 : ((ClassFile.Reader.u1 : z_D Nat) >>= F 0) w 0 = Except.bind ((ClassFile.Reader.u1 : z_D Nat) w 0) (fun x => F 0 x.1 w x.2) := rfl
  have e2 : ((ClassFile.Reader.u1 : z_D Nat) >>= F pc) c (p + 0) = Except.bind ((ClassFile.Reader.u1 : z_D Nat) c (p + 0)) (fun x => F pc x.1 c x.2) := rfl
  rw [ef, e1, z_u1v h0, hb] at h
  show ClassFile.Decoder.instr pc c (p + 0) = _
  rw [ef, e2, z_u1v h2, e, hb]
  exact s c w p pc H 1 v q' h
def z_win (X : Nat) : ByteArray := ⟨#[UInt8.ofNat X, UInt8.ofNat (X / 256), UInt8.ofNat (X / 65536)]⟩
theorem z_row {c : ByteArray} {sz N : Nat} (hc : c.data.toList = z_un sz N) (pc X : Nat) (hpc : pc + 3 ≤ sz) (hX : N / 256 ^ pc % 16777216 = X) (o : z_O (X % 256)) {I : ClassFile.Instr} {n : Nat} (hd : ClassFile.decode (z_win X) 0 = Except.ok (I, n)) : ClassFile.decode c pc = Except.ok (I, n) := by
  have hs : c.size = sz := by
    show c.data.toList.length = sz
    rw [hc, z_un_len]
  have hg : ∀ i (h : i < c.size), c[i]'h = UInt8.ofNat (N / 256 ^ i) := by
    intro i h
    have h1 := z_un_get sz N i (by omega)
    rw [← hc, List.getElem?_eq_getElem (by show i < c.size; exact h)] at h1
    exact Option.some.inj h1
  have h256 : ∀ a b : Nat, a % 256 = b % 256 → UInt8.ofNat a = UInt8.ofNat b := by
    intro a b h
    apply UInt8.toNat_inj.mp
    rw [UInt8.toNat_ofNat', UInt8.toNat_ofNat']
    exact h
  have ag : z_ag c (z_win X) pc := by
    intro q h
    have hq : q < 3 := h
    refine ⟨by omega, ?_⟩
    rw [hg]
    have dv : ∀ k, N / 256 ^ (pc + k) = N / 256 ^ pc / 256 ^ k := fun k => by rw [Nat.pow_add, Nat.div_div_eq_div_mul]
    rw [dv]
    generalize N / 256 ^ pc = Y at hX
    match q, hq with
    | 0, _ => exact h256 _ _ (by show Y / 1 % 256 = X % 256; omega)
    | 1, _ => exact h256 _ _ (by show Y / 256 % 256 = X / 256 % 256; omega)
    | 2, _ => exact h256 _ _ (by show Y / 65536 % 256 = X / 65536 % 256; omega)
  have e : ∀ (c : ByteArray) (pc : Nat), ClassFile.decode c pc = Except.bind (ClassFile.Decoder.instr pc c pc) (fun x => Except.ok (x.1, x.2 - pc)) := fun _ _ => rfl
  rw [e] at hd ⊢
  cases hr : ClassFile.Decoder.instr 0 (z_win X) 0 with
  | error z => rw [hr] at hd; exact absurd hd (fun h => by injection h)
  | ok x =>
    rw [hr] at hd
    have h3 : (Except.ok (x.1, x.2 - 0) : Except ClassFile.DecodeError (ClassFile.Instr × Nat)) = Except.ok (I, n) := hd
    injection h3 with h3
    injection h3 with h4 h5
    rw [o c (z_win X) pc pc ag (by show 0 < 3; decide) (by show (UInt8.ofNat X).toNat = _; rw [UInt8.toNat_ofNat']) x.1 x.2 hr, ← h4, ← h5]
    show (Except.ok (x.1, pc + x.2 - pc) : Except ClassFile.DecodeError (ClassFile.Instr × Nat)) = Except.ok (x.1, x.2 - 0)
    rw [Nat.add_sub_cancel_left, Nat.sub_zero]
theorem z_o1 : z_O 1 := z_mk (fun _ => rfl) (fun c w p pc H => z_pure)
theorem z_o2 : z_O 2 := z_mk (fun _ => rfl) (fun c w p pc H => z_pure)
theorem z_o3 : z_O 3 := z_mk (fun _ => rfl) (fun c w p pc H => z_pure)
theorem z_o4 : z_O 4 := z_mk (fun _ => rfl) (fun c w p pc H => z_pure)
theorem z_o5 : z_O 5 := z_mk (fun _ => rfl) (fun c w p pc H => z_pure)
theorem z_o6 : z_O 6 := z_mk (fun _ => rfl) (fun c w p pc H => z_pure)
theorem z_o7 : z_O 7 := z_mk (fun _ => rfl) (fun c w p pc H => z_pure)
theorem z_o8 : z_O 8 := z_mk (fun _ => rfl) (fun c w p pc H => z_pure)
theorem z_o9 : z_O 9 := z_mk (fun _ => rfl) (fun c w p pc H => z_pure)
theorem z_o10 : z_O 10 := z_mk (fun _ => rfl) (fun c w p pc H => z_pure)
theorem z_o16 : z_O 16 := z_mk (fun _ => rfl) (fun c w p pc H => z_bind (z_s1 H) (fun _ => z_pure))
theorem z_o18 : z_O 18 := z_mk (fun _ => rfl) (fun c w p pc H => z_bind (z_u1 H) (fun _ => z_pure))
theorem z_o19 : z_O 19 := z_mk (fun _ => rfl) (fun c w p pc H => z_bind (z_u2 H) (fun _ => z_pure))
theorem z_o20 : z_O 20 := z_mk (fun _ => rfl) (fun c w p pc H => z_bind (z_u2 H) (fun _ => z_pure))
theorem z_o21 : z_O 21 := z_mk (fun _ => rfl) (fun c w p pc H => z_bind (z_u1 H) (fun _ => z_pure))
theorem z_o22 : z_O 22 := z_mk (fun _ => rfl) (fun c w p pc H => z_bind (z_u1 H) (fun _ => z_pure))
theorem z_o25 : z_O 25 := z_mk (fun _ => rfl) (fun c w p pc H => z_bind (z_u1 H) (fun _ => z_pure))
theorem z_o26 : z_O 26 := z_mk (fun _ => rfl) (fun c w p pc H => z_pure)
theorem z_o27 : z_O 27 := z_mk (fun _ => rfl) (fun c w p pc H => z_pure)
theorem z_o28 : z_O 28 := z_mk (fun _ => rfl) (fun c w p pc H => z_pure)
theorem z_o29 : z_O 29 := z_mk (fun _ => rfl) (fun c w p pc H => z_pure)
theorem z_o31 : z_O 31 := z_mk (fun _ => rfl) (fun c w p pc H => z_pure)
theorem z_o33 : z_O 33 := z_mk (fun _ => rfl) (fun c w p pc H => z_pure)
theorem z_o42 : z_O 42 := z_mk (fun _ => rfl) (fun c w p pc H => z_pure)
theorem z_o43 : z_O 43 := z_mk (fun _ => rfl) (fun c w p pc H => z_pure)
theorem z_o44 : z_O 44 := z_mk (fun _ => rfl) (fun c w p pc H => z_pure)
theorem z_o45 : z_O 45 := z_mk (fun _ => rfl) (fun c w p pc H => z_pure)
theorem z_o46 : z_O 46 := z_mk (fun _ => rfl) (fun c w p pc H => z_pure)
theorem z_o50 : z_O 50 := z_mk (fun _ => rfl) (fun c w p pc H => z_pure)
theorem z_o51 : z_O 51 := z_mk (fun _ => rfl) (fun c w p pc H => z_pure)
theorem z_o54 : z_O 54 := z_mk (fun _ => rfl) (fun c w p pc H => z_bind (z_u1 H) (fun _ => z_pure))
theorem z_o55 : z_O 55 := z_mk (fun _ => rfl) (fun c w p pc H => z_bind (z_u1 H) (fun _ => z_pure))
theorem z_o58 : z_O 58 := z_mk (fun _ => rfl) (fun c w p pc H => z_bind (z_u1 H) (fun _ => z_pure))
theorem z_o59 : z_O 59 := z_mk (fun _ => rfl) (fun c w p pc H => z_pure)
theorem z_o60 : z_O 60 := z_mk (fun _ => rfl) (fun c w p pc H => z_pure)
theorem z_o61 : z_O 61 := z_mk (fun _ => rfl) (fun c w p pc H => z_pure)
theorem z_o62 : z_O 62 := z_mk (fun _ => rfl) (fun c w p pc H => z_pure)
theorem z_o64 : z_O 64 := z_mk (fun _ => rfl) (fun c w p pc H => z_pure)
theorem z_o66 : z_O 66 := z_mk (fun _ => rfl) (fun c w p pc H => z_pure)
theorem z_o77 : z_O 77 := z_mk (fun _ => rfl) (fun c w p pc H => z_pure)
theorem z_o79 : z_O 79 := z_mk (fun _ => rfl) (fun c w p pc H => z_pure)
theorem z_o83 : z_O 83 := z_mk (fun _ => rfl) (fun c w p pc H => z_pure)
theorem z_o84 : z_O 84 := z_mk (fun _ => rfl) (fun c w p pc H => z_pure)
theorem z_o87 : z_O 87 := z_mk (fun _ => rfl) (fun c w p pc H => z_pure)
theorem z_o88 : z_O 88 := z_mk (fun _ => rfl) (fun c w p pc H => z_pure)
theorem z_o89 : z_O 89 := z_mk (fun _ => rfl) (fun c w p pc H => z_pure)
theorem z_o90 : z_O 90 := z_mk (fun _ => rfl) (fun c w p pc H => z_pure)
theorem z_o96 : z_O 96 := z_mk (fun _ => rfl) (fun c w p pc H => z_pure)
theorem z_o97 : z_O 97 := z_mk (fun _ => rfl) (fun c w p pc H => z_pure)
theorem z_o100 : z_O 100 := z_mk (fun _ => rfl) (fun c w p pc H => z_pure)
theorem z_o101 : z_O 101 := z_mk (fun _ => rfl) (fun c w p pc H => z_pure)
theorem z_o104 : z_O 104 := z_mk (fun _ => rfl) (fun c w p pc H => z_pure)
theorem z_o105 : z_O 105 := z_mk (fun _ => rfl) (fun c w p pc H => z_pure)
theorem z_o108 : z_O 108 := z_mk (fun _ => rfl) (fun c w p pc H => z_pure)
theorem z_o112 : z_O 112 := z_mk (fun _ => rfl) (fun c w p pc H => z_pure)
theorem z_o113 : z_O 113 := z_mk (fun _ => rfl) (fun c w p pc H => z_pure)
theorem z_o116 : z_O 116 := z_mk (fun _ => rfl) (fun c w p pc H => z_pure)
theorem z_o117 : z_O 117 := z_mk (fun _ => rfl) (fun c w p pc H => z_pure)
theorem z_o120 : z_O 120 := z_mk (fun _ => rfl) (fun c w p pc H => z_pure)
theorem z_o123 : z_O 123 := z_mk (fun _ => rfl) (fun c w p pc H => z_pure)
theorem z_o124 : z_O 124 := z_mk (fun _ => rfl) (fun c w p pc H => z_pure)
theorem z_o126 : z_O 126 := z_mk (fun _ => rfl) (fun c w p pc H => z_pure)
theorem z_o127 : z_O 127 := z_mk (fun _ => rfl) (fun c w p pc H => z_pure)
theorem z_o128 : z_O 128 := z_mk (fun _ => rfl) (fun c w p pc H => z_pure)
theorem z_o130 : z_O 130 := z_mk (fun _ => rfl) (fun c w p pc H => z_pure)
theorem z_o132 : z_O 132 := z_mk (fun _ => rfl) (fun c w p pc H => z_bind (z_u1 H) (fun _ => z_bind (z_s1 H) (fun _ => z_pure)))
theorem z_o133 : z_O 133 := z_mk (fun _ => rfl) (fun c w p pc H => z_pure)
theorem z_o145 : z_O 145 := z_mk (fun _ => rfl) (fun c w p pc H => z_pure)
theorem z_o148 : z_O 148 := z_mk (fun _ => rfl) (fun c w p pc H => z_pure)
theorem z_o153 : z_O 153 := z_mk (fun _ => rfl) (fun c w p pc H => z_bind (z_s2 H) (fun _ => z_pure))
theorem z_o154 : z_O 154 := z_mk (fun _ => rfl) (fun c w p pc H => z_bind (z_s2 H) (fun _ => z_pure))
theorem z_o155 : z_O 155 := z_mk (fun _ => rfl) (fun c w p pc H => z_bind (z_s2 H) (fun _ => z_pure))
theorem z_o156 : z_O 156 := z_mk (fun _ => rfl) (fun c w p pc H => z_bind (z_s2 H) (fun _ => z_pure))
theorem z_o157 : z_O 157 := z_mk (fun _ => rfl) (fun c w p pc H => z_bind (z_s2 H) (fun _ => z_pure))
theorem z_o158 : z_O 158 := z_mk (fun _ => rfl) (fun c w p pc H => z_bind (z_s2 H) (fun _ => z_pure))
theorem z_o159 : z_O 159 := z_mk (fun _ => rfl) (fun c w p pc H => z_bind (z_s2 H) (fun _ => z_pure))
theorem z_o160 : z_O 160 := z_mk (fun _ => rfl) (fun c w p pc H => z_bind (z_s2 H) (fun _ => z_pure))
theorem z_o161 : z_O 161 := z_mk (fun _ => rfl) (fun c w p pc H => z_bind (z_s2 H) (fun _ => z_pure))
theorem z_o162 : z_O 162 := z_mk (fun _ => rfl) (fun c w p pc H => z_bind (z_s2 H) (fun _ => z_pure))
theorem z_o163 : z_O 163 := z_mk (fun _ => rfl) (fun c w p pc H => z_bind (z_s2 H) (fun _ => z_pure))
theorem z_o164 : z_O 164 := z_mk (fun _ => rfl) (fun c w p pc H => z_bind (z_s2 H) (fun _ => z_pure))
theorem z_o167 : z_O 167 := z_mk (fun _ => rfl) (fun c w p pc H => z_bind (z_s2 H) (fun _ => z_pure))
theorem z_o172 : z_O 172 := z_mk (fun _ => rfl) (fun c w p pc H => z_pure)
theorem z_o176 : z_O 176 := z_mk (fun _ => rfl) (fun c w p pc H => z_pure)
theorem z_o178 : z_O 178 := z_mk (fun _ => rfl) (fun c w p pc H => z_bind (z_u2 H) (fun _ => z_pure))
theorem z_o180 : z_O 180 := z_mk (fun _ => rfl) (fun c w p pc H => z_bind (z_u2 H) (fun _ => z_pure))
theorem z_o181 : z_O 181 := z_mk (fun _ => rfl) (fun c w p pc H => z_bind (z_u2 H) (fun _ => z_pure))
theorem z_o182 : z_O 182 := z_mk (fun _ => rfl) (fun c w p pc H => z_bind (z_u2 H) (fun _ => z_pure))
theorem z_o183 : z_O 183 := z_mk (fun _ => rfl) (fun c w p pc H => z_bind (z_u2 H) (fun _ => z_pure))
theorem z_o184 : z_O 184 := z_mk (fun _ => rfl) (fun c w p pc H => z_bind (z_u2 H) (fun _ => z_pure))
theorem z_o187 : z_O 187 := z_mk (fun _ => rfl) (fun c w p pc H => z_bind (z_u2 H) (fun _ => z_pure))
theorem z_o189 : z_O 189 := z_mk (fun _ => rfl) (fun c w p pc H => z_bind (z_u2 H) (fun _ => z_pure))
theorem z_o190 : z_O 190 := z_mk (fun _ => rfl) (fun c w p pc H => z_pure)
theorem z_o192 : z_O 192 := z_mk (fun _ => rfl) (fun c w p pc H => z_bind (z_u2 H) (fun _ => z_pure))
theorem z_o198 : z_O 198 := z_mk (fun _ => rfl) (fun c w p pc H => z_bind (z_s2 H) (fun _ => z_pure))
theorem z_o199 : z_O 199 := z_mk (fun _ => rfl) (fun c w p pc H => z_bind (z_s2 H) (fun _ => z_pure))
