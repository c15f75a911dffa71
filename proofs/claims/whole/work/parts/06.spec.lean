/-! ===== numbers: what the methods compute ===== -/
def bin (v lo hi : Int32) : Int32 := if v < lo then 0 else if hi < v then 0 else 1
theorem bin_n (v lo hi : Int32) : narrow .boolean (.int (bin v lo hi)) = .int (bin v lo hi) := by
  unfold bin
  split
  · rfl
  · split <;> rfl
def imin (a b : Int32) : Int32 := if a < b then a else b
def nbr (k : Nat) : Nat := if k = 7 then k - 1 else k + 1
theorem nbr_lt {k : Nat} (h : k < 8) : nbr k < 8 := by
  unfold nbr
  split <;> omega
def gth (f s t : Int32) : Int32 := if f = 0 then 1 else if s = 0 then 2 else if t = 0 then 3 else 0
def upS (σ : Nat → Nat → Int32) (k : Nat) (f : Nat → Int32) : Nat → Nat → Int32 := fun a => if a = k then f else σ a
def vol (f : Nat → Int32) (b : Nat) : Nat → Int32
  | 0 => 0
  | n + 1 => vol f b n + f (b + n)
def sclA (f : Nat → Int32) (b : Nat) : Nat → (Nat → Int32)
  | 0 => f
  | n + 1 => if 1 < sclA f b n (b + n) then upd (sclA f b n) (b + n) (sclA f b n (b + n) - 1) else sclA f b n
def sclN (f : Nat → Int32) (b : Nat) (x : Int32) : Nat → Int32
  | 0 => x
  | n + 1 => if 1 < sclA f b n (b + n) then sclN f b x n + 1 else sclN f b x n
def fil (f : Nat → Int32) (b : Nat) (v : Int32) : Nat → (Nat → Int32)
  | 0 => f
  | n + 1 => upd (fil f b v n) (b + n) v
/-- the reference's cells -/
abbrev mF (ad : Nat → Nat) (σ : Nat → Nat → Int32) : List Value := [.ref (ad 0), .ref (ad 1), .ref (ad 2), .int (σ 3 0), .ref (ad 4), .int (σ 5 0), .ref (ad 6), .ref (ad 7), .ref (ad 8), .ref (ad 9), .ref (ad 10), .ref (ad 11), .ref (ad 12), .ref (ad 13), .ref (ad 14), .ref (ad 15), .ref (ad 16), .ref (ad 17), .ref (ad 18), .ref (ad 19), .ref (ad 20), .int (σ 21 0), .ref (ad 22), .ref (ad 23), .int (σ 24 0), .ref (ad 25), .int (σ 26 0), .ref (ad 27), .int (σ 28 0), .ref (ad 29), .ref (ad 30), .int (σ 31 0)]
abbrev mW (o : Nat) (ad : Nat → Nat) (T : Nat → ClassId) (σ : Nat → Nat → Int32) : va_W := [(o, .inr (7, mF ad σ)),
  (ad 0, .inl (T 0, 4, .inl (σ 0))), (ad 1, .inl (T 0, 4, .inl (σ 1))), (ad 2, .inl (T 0, 4, .inl (σ 2))), (ad 4, .inl (T 0, 20, .inl (σ 4))), (ad 6, .inl (T 0, 12, .inl (σ 6))), (ad 7, .inl (T 0, 96, .inl (σ 7))), (ad 8, .inl (T 0, 96, .inl (σ 8))),
  (ad 9, .inl (T 0, 12, .inl (σ 9))), (ad 10, .inl (T 0, 12, .inl (σ 10))), (ad 11, .inl (T 0, 12, .inl (σ 11))), (ad 12, .inl (T 0, 12, .inl (σ 12))), (ad 13, .inl (T 0, 12, .inl (σ 13))), (ad 14, .inl (T 1, 12, .inl (σ 14))), (ad 15, .inl (T 0, 12, .inl (σ 15))), (ad 16, .inl (T 0, 12, .inl (σ 16))), (ad 17, .inl (T 0, 12, .inl (σ 17))), (ad 18, .inl (T 1, 12, .inl (σ 18))), (ad 19, .inl (T 0, 12, .inl (σ 19))), (ad 20, .inl (T 0, 12, .inl (σ 20))),
  (ad 22, .inl (T 0, 32, .inl (σ 22))), (ad 23, .inl (T 0, 4, .inl (σ 23))), (ad 25, .inl (T 1, 400, .inl (σ 25))), (ad 27, .inl (T 0, 12, .inl (σ 27))), (ad 29, .inl (T 0, 256, .inl (σ 29))), (ad 30, .inl (T 0, 256, .inl (σ 30)))]
/-- a minute: the skin outside of the furnace; the core after the skin -/
def clS (sk : Int32) : Int32 := sk - (sk - 20) / 10
def wrm (sk co : Int32) : Int32 := co + (sk - co) / 6
theorem upd_same (f : Nat → Int32) (k : Nat) (x : Int32) : upd f k x k = x := if_pos rfl
theorem upd_ne (f : Nat → Int32) {k j : Nat} (x : Int32) (h : j ≠ k) : upd f k x j = f j := if_neg h
theorem upd_upd (f : Nat → Int32) (k : Nat) (x y : Int32) : upd (upd f k x) k y = upd f k y := by
  funext j
  unfold upd
  split <;> rfl
