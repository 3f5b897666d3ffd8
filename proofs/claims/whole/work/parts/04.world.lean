def KC (g : Nat → Nat) (Y : YT) (k : Nat) (τ : Nat → Int32) : va_E := match k with
  | 0 => .inr (9, [.ref (g 1), .ref (g 2), .ref (g 3), .ref (g 5), .ref (g 7)])
  | 1 => .inr (1, [.ref (g 12), .ref (g 13), .ref (g 14), .ref (g 15), .ref (g 10), .int (τ 5)])
  | 2 => .inr (5, [.ref (g 17), .ref (g 18), .int (τ 2)])
  | 3 => .inr (2, [.ref (g 1), .ref (g 2), .ref (g 4), .ref (g 19), .ref (g 20), .int (τ 5), .ref (g 21), .ref (g 22), .ref (g 23), .ref (g 24), .ref (g 25)])
  | 4 => .inr (6, [.ref (g 10), .ref (g 26), .ref (g 27), .ref (g 28), .ref (g 29), .ref (g 30), .ref (g 31), .ref (g 32), .int (τ 8)])
  | 5 => .inr (0, [.ref (g 1), .ref (g 11), .ref (g 34), .ref (g 35), .ref (g 36), .ref (g 6), .int (τ 6)])
  | 6 => .inr (7, [.ref (g 37), .ref (g 38), .ref (g 39), .int (τ 3), .int (τ 4), .int (τ 5), .int (τ 6), .int (τ 7)])
  | 7 => .inr (4, [.ref (g 1), .ref (g 40), .ref (g 41)])
  | 8 => .inr (8, [.ref (g 42), .int (τ 1)])
  | 9 => .inr (8, [.ref (g 43), .int (τ 1)])
  | 10 => .inr (3, [.ref (g 16)])
  | 11 => .inr (3, [.ref (g 33)])
  | 12 => .inl (Y.1, 6, .inl τ)
  | 13 => .inl (Y.1, 6, .inl τ)
  | 14 => .inl (Y.1, 6, .inl τ)
  | 15 => .inl (Y.1, 6, .inl τ)
  | 16 => .inl (Y.1, 36, .inl τ)
  | 17 => .inl (Y.1, 8, .inl τ)
  | 18 => .inl (Y.1, 8, .inl τ)
  | 19 => .inl (Y.1, 6, .inl τ)
  | 20 => .inl (Y.1, 40, .inl τ)
  | 21 => .inl (Y.1, 6, .inl τ)
  | 22 => .inl (Y.1, 48, .inl τ)
  | 23 => .inl (Y.1, 48, .inl τ)
  | 24 => .inl (Y.1, 48, .inl τ)
  | 25 => .inl (Y.1, 48, .inl τ)
  | 26 => .inl (Y.1, 40, .inl τ)
  | 27 => .inl (Y.1, 40, .inl τ)
  | 28 => .inl (Y.1, 40, .inl τ)
  | 29 => .inl (Y.1, 40, .inl τ)
  | 30 => .inl (Y.1, 40, .inl τ)
  | 31 => .inl (Y.1, 40, .inl τ)
  | 32 => .inl (Y.1, 40, .inl τ)
  | 33 => .inl (Y.1, 36, .inl τ)
  | 34 => .inl (Y.1, 30, .inl τ)
  | 35 => .inl (Y.1, 24, .inl τ)
  | 36 => .inl (Y.1, 24, .inl τ)
  | 37 => .inl (Y.1, 24, .inl τ)
  | 38 => .inl (Y.1, 24, .inl τ)
  | 39 => .inl (Y.1, 30, .inl τ)
  | 40 => .inl (Y.1, 3, .inl τ)
  | 41 => .inl (Y.2.2.2, 2, .inr (.inr (.inr (.inr (fun j => if j = 0 then some (g 8) else some (g 9))))))
  | 42 => .inl (Y.2.1, 24, .inl τ)
  | _ => .inl (Y.2.1, 24, .inl τ)
theorem kc0 (g : Nat → Nat) (Y : YT) (τ : Nat → Int32) : KC g Y 0 τ = .inr (9, [.ref (g 1), .ref (g 2), .ref (g 3), .ref (g 5), .ref (g 7)]) := rfl
theorem kc1 (g : Nat → Nat) (Y : YT) (τ : Nat → Int32) : KC g Y 1 τ = .inr (1, [.ref (g 12), .ref (g 13), .ref (g 14), .ref (g 15), .ref (g 10), .int (τ 5)]) := rfl
theorem kcs1_5 (g : Nat → Nat) (Y : YT) (τ : Nat → Int32) (x : Int32) : KC g Y 1 (upd τ 5 x) = .inr (1, [.ref (g 12), .ref (g 13), .ref (g 14), .ref (g 15), .ref (g 10), .int (τ 5)].set 5 (.int x)) := rfl
theorem kc2 (g : Nat → Nat) (Y : YT) (τ : Nat → Int32) : KC g Y 2 τ = .inr (5, [.ref (g 17), .ref (g 18), .int (τ 2)]) := rfl
theorem kcs2_2 (g : Nat → Nat) (Y : YT) (τ : Nat → Int32) (x : Int32) : KC g Y 2 (upd τ 2 x) = .inr (5, [.ref (g 17), .ref (g 18), .int (τ 2)].set 2 (.int x)) := rfl
theorem kc3 (g : Nat → Nat) (Y : YT) (τ : Nat → Int32) : KC g Y 3 τ = .inr (2, [.ref (g 1), .ref (g 2), .ref (g 4), .ref (g 19), .ref (g 20), .int (τ 5), .ref (g 21), .ref (g 22), .ref (g 23), .ref (g 24), .ref (g 25)]) := rfl
theorem kcs3_5 (g : Nat → Nat) (Y : YT) (τ : Nat → Int32) (x : Int32) : KC g Y 3 (upd τ 5 x) = .inr (2, [.ref (g 1), .ref (g 2), .ref (g 4), .ref (g 19), .ref (g 20), .int (τ 5), .ref (g 21), .ref (g 22), .ref (g 23), .ref (g 24), .ref (g 25)].set 5 (.int x)) := rfl
theorem kc4 (g : Nat → Nat) (Y : YT) (τ : Nat → Int32) : KC g Y 4 τ = .inr (6, [.ref (g 10), .ref (g 26), .ref (g 27), .ref (g 28), .ref (g 29), .ref (g 30), .ref (g 31), .ref (g 32), .int (τ 8)]) := rfl
theorem kcs4_8 (g : Nat → Nat) (Y : YT) (τ : Nat → Int32) (x : Int32) : KC g Y 4 (upd τ 8 x) = .inr (6, [.ref (g 10), .ref (g 26), .ref (g 27), .ref (g 28), .ref (g 29), .ref (g 30), .ref (g 31), .ref (g 32), .int (τ 8)].set 8 (.int x)) := rfl
theorem kc5 (g : Nat → Nat) (Y : YT) (τ : Nat → Int32) : KC g Y 5 τ = .inr (0, [.ref (g 1), .ref (g 11), .ref (g 34), .ref (g 35), .ref (g 36), .ref (g 6), .int (τ 6)]) := rfl
theorem kcs5_6 (g : Nat → Nat) (Y : YT) (τ : Nat → Int32) (x : Int32) : KC g Y 5 (upd τ 6 x) = .inr (0, [.ref (g 1), .ref (g 11), .ref (g 34), .ref (g 35), .ref (g 36), .ref (g 6), .int (τ 6)].set 6 (.int x)) := rfl
theorem kc6 (g : Nat → Nat) (Y : YT) (τ : Nat → Int32) : KC g Y 6 τ = .inr (7, [.ref (g 37), .ref (g 38), .ref (g 39), .int (τ 3), .int (τ 4), .int (τ 5), .int (τ 6), .int (τ 7)]) := rfl
theorem kcs6_3 (g : Nat → Nat) (Y : YT) (τ : Nat → Int32) (x : Int32) : KC g Y 6 (upd τ 3 x) = .inr (7, [.ref (g 37), .ref (g 38), .ref (g 39), .int (τ 3), .int (τ 4), .int (τ 5), .int (τ 6), .int (τ 7)].set 3 (.int x)) := rfl
theorem kcs6_4 (g : Nat → Nat) (Y : YT) (τ : Nat → Int32) (x : Int32) : KC g Y 6 (upd τ 4 x) = .inr (7, [.ref (g 37), .ref (g 38), .ref (g 39), .int (τ 3), .int (τ 4), .int (τ 5), .int (τ 6), .int (τ 7)].set 4 (.int x)) := rfl
theorem kcs6_5 (g : Nat → Nat) (Y : YT) (τ : Nat → Int32) (x : Int32) : KC g Y 6 (upd τ 5 x) = .inr (7, [.ref (g 37), .ref (g 38), .ref (g 39), .int (τ 3), .int (τ 4), .int (τ 5), .int (τ 6), .int (τ 7)].set 5 (.int x)) := rfl
theorem kcs6_6 (g : Nat → Nat) (Y : YT) (τ : Nat → Int32) (x : Int32) : KC g Y 6 (upd τ 6 x) = .inr (7, [.ref (g 37), .ref (g 38), .ref (g 39), .int (τ 3), .int (τ 4), .int (τ 5), .int (τ 6), .int (τ 7)].set 6 (.int x)) := rfl
theorem kcs6_7 (g : Nat → Nat) (Y : YT) (τ : Nat → Int32) (x : Int32) : KC g Y 6 (upd τ 7 x) = .inr (7, [.ref (g 37), .ref (g 38), .ref (g 39), .int (τ 3), .int (τ 4), .int (τ 5), .int (τ 6), .int (τ 7)].set 7 (.int x)) := rfl
theorem kc7 (g : Nat → Nat) (Y : YT) (τ : Nat → Int32) : KC g Y 7 τ = .inr (4, [.ref (g 1), .ref (g 40), .ref (g 41)]) := rfl
theorem kc8 (g : Nat → Nat) (Y : YT) (τ : Nat → Int32) : KC g Y 8 τ = .inr (8, [.ref (g 42), .int (τ 1)]) := rfl
theorem kcs8_1 (g : Nat → Nat) (Y : YT) (τ : Nat → Int32) (x : Int32) : KC g Y 8 (upd τ 1 x) = .inr (8, [.ref (g 42), .int (τ 1)].set 1 (.int x)) := rfl
theorem kc9 (g : Nat → Nat) (Y : YT) (τ : Nat → Int32) : KC g Y 9 τ = .inr (8, [.ref (g 43), .int (τ 1)]) := rfl
theorem kcs9_1 (g : Nat → Nat) (Y : YT) (τ : Nat → Int32) (x : Int32) : KC g Y 9 (upd τ 1 x) = .inr (8, [.ref (g 43), .int (τ 1)].set 1 (.int x)) := rfl
theorem kc10 (g : Nat → Nat) (Y : YT) (τ : Nat → Int32) : KC g Y 10 τ = .inr (3, [.ref (g 16)]) := rfl
theorem kc11 (g : Nat → Nat) (Y : YT) (τ : Nat → Int32) : KC g Y 11 τ = .inr (3, [.ref (g 33)]) := rfl
theorem kc12 (g : Nat → Nat) (Y : YT) (τ : Nat → Int32) : KC g Y 12 τ = .inl (Y.1, 6, .inl τ) := rfl
theorem kc13 (g : Nat → Nat) (Y : YT) (τ : Nat → Int32) : KC g Y 13 τ = .inl (Y.1, 6, .inl τ) := rfl
theorem kc14 (g : Nat → Nat) (Y : YT) (τ : Nat → Int32) : KC g Y 14 τ = .inl (Y.1, 6, .inl τ) := rfl
theorem kc15 (g : Nat → Nat) (Y : YT) (τ : Nat → Int32) : KC g Y 15 τ = .inl (Y.1, 6, .inl τ) := rfl
theorem kc16 (g : Nat → Nat) (Y : YT) (τ : Nat → Int32) : KC g Y 16 τ = .inl (Y.1, 36, .inl τ) := rfl
theorem kc17 (g : Nat → Nat) (Y : YT) (τ : Nat → Int32) : KC g Y 17 τ = .inl (Y.1, 8, .inl τ) := rfl
theorem kc18 (g : Nat → Nat) (Y : YT) (τ : Nat → Int32) : KC g Y 18 τ = .inl (Y.1, 8, .inl τ) := rfl
theorem kc19 (g : Nat → Nat) (Y : YT) (τ : Nat → Int32) : KC g Y 19 τ = .inl (Y.1, 6, .inl τ) := rfl
theorem kc20 (g : Nat → Nat) (Y : YT) (τ : Nat → Int32) : KC g Y 20 τ = .inl (Y.1, 40, .inl τ) := rfl
theorem kc21 (g : Nat → Nat) (Y : YT) (τ : Nat → Int32) : KC g Y 21 τ = .inl (Y.1, 6, .inl τ) := rfl
theorem kc22 (g : Nat → Nat) (Y : YT) (τ : Nat → Int32) : KC g Y 22 τ = .inl (Y.1, 48, .inl τ) := rfl
theorem kc23 (g : Nat → Nat) (Y : YT) (τ : Nat → Int32) : KC g Y 23 τ = .inl (Y.1, 48, .inl τ) := rfl
theorem kc24 (g : Nat → Nat) (Y : YT) (τ : Nat → Int32) : KC g Y 24 τ = .inl (Y.1, 48, .inl τ) := rfl
theorem kc25 (g : Nat → Nat) (Y : YT) (τ : Nat → Int32) : KC g Y 25 τ = .inl (Y.1, 48, .inl τ) := rfl
theorem kc26 (g : Nat → Nat) (Y : YT) (τ : Nat → Int32) : KC g Y 26 τ = .inl (Y.1, 40, .inl τ) := rfl
theorem kc27 (g : Nat → Nat) (Y : YT) (τ : Nat → Int32) : KC g Y 27 τ = .inl (Y.1, 40, .inl τ) := rfl
theorem kc28 (g : Nat → Nat) (Y : YT) (τ : Nat → Int32) : KC g Y 28 τ = .inl (Y.1, 40, .inl τ) := rfl
theorem kc29 (g : Nat → Nat) (Y : YT) (τ : Nat → Int32) : KC g Y 29 τ = .inl (Y.1, 40, .inl τ) := rfl
theorem kc30 (g : Nat → Nat) (Y : YT) (τ : Nat → Int32) : KC g Y 30 τ = .inl (Y.1, 40, .inl τ) := rfl
theorem kc31 (g : Nat → Nat) (Y : YT) (τ : Nat → Int32) : KC g Y 31 τ = .inl (Y.1, 40, .inl τ) := rfl
theorem kc32 (g : Nat → Nat) (Y : YT) (τ : Nat → Int32) : KC g Y 32 τ = .inl (Y.1, 40, .inl τ) := rfl
theorem kc33 (g : Nat → Nat) (Y : YT) (τ : Nat → Int32) : KC g Y 33 τ = .inl (Y.1, 36, .inl τ) := rfl
theorem kc34 (g : Nat → Nat) (Y : YT) (τ : Nat → Int32) : KC g Y 34 τ = .inl (Y.1, 30, .inl τ) := rfl
theorem kc35 (g : Nat → Nat) (Y : YT) (τ : Nat → Int32) : KC g Y 35 τ = .inl (Y.1, 24, .inl τ) := rfl
theorem kc36 (g : Nat → Nat) (Y : YT) (τ : Nat → Int32) : KC g Y 36 τ = .inl (Y.1, 24, .inl τ) := rfl
theorem kc37 (g : Nat → Nat) (Y : YT) (τ : Nat → Int32) : KC g Y 37 τ = .inl (Y.1, 24, .inl τ) := rfl
theorem kc38 (g : Nat → Nat) (Y : YT) (τ : Nat → Int32) : KC g Y 38 τ = .inl (Y.1, 24, .inl τ) := rfl
theorem kc39 (g : Nat → Nat) (Y : YT) (τ : Nat → Int32) : KC g Y 39 τ = .inl (Y.1, 30, .inl τ) := rfl
theorem kc40 (g : Nat → Nat) (Y : YT) (τ : Nat → Int32) : KC g Y 40 τ = .inl (Y.1, 3, .inl τ) := rfl
theorem kc41 (g : Nat → Nat) (Y : YT) (τ : Nat → Int32) : KC g Y 41 τ = .inl (Y.2.2.2, 2, .inr (.inr (.inr (.inr (fun j => if j = 0 then some (g 8) else some (g 9)))))) := rfl
theorem kc42 (g : Nat → Nat) (Y : YT) (τ : Nat → Int32) : KC g Y 42 τ = .inl (Y.2.1, 24, .inl τ) := rfl
theorem kc43 (g : Nat → Nat) (Y : YT) (τ : Nat → Int32) : KC g Y 43 τ = .inl (Y.2.1, 24, .inl τ) := rfl
def KM (g : Nat → Nat) (Y : YT) (k : Nat) (τ : Nat → Int32) : va_E := match k with
  | 0 => .inr (10, [.int (τ 0), .ref (g 1), .ref (g 2), .ref (g 3), .ref (g 4), .ref (g 5), .ref (g 6), .int (τ 7), .ref (g 7), .ref (g 8), .int (τ 10), .ref (g 9), .ref (g 10), .int (τ 13), .ref (g 11), .ref (g 12), .ref (g 13), .int (τ 17), .int (τ 18), .int (τ 19), .ref (g 14), .ref (g 15), .ref (g 16), .ref (g 17), .ref (g 18), .ref (g 19), .ref (g 20), .ref (g 21), .ref (g 22), .ref (g 23), .ref (g 24), .ref (g 25), .int (τ 32), .int (τ 33), .int (τ 34), .int (τ 35), .ref (g 26)])
  | 1 => .inl (Y.1, 6, .inl τ)
  | 2 => .inl (Y.1, 6, .inl τ)
  | 3 => .inl (Y.1, 6, .inl τ)
  | 4 => .inl (Y.1, 6, .inl τ)
  | 5 => .inl (Y.1, 36, .inl τ)
  | 6 => .inl (Y.1, 36, .inl τ)
  | 7 => .inl (Y.1, 8, .inl τ)
  | 8 => .inl (Y.1, 8, .inl τ)
  | 9 => .inl (Y.1, 6, .inl τ)
  | 10 => .inl (Y.1, 40, .inl τ)
  | 11 => .inl (Y.1, 30, .inl τ)
  | 12 => .inl (Y.1, 24, .inl τ)
  | 13 => .inl (Y.1, 24, .inl τ)
  | 14 => .inl (Y.1, 2, .inl τ)
  | 15 => .inl (Y.1, 48, .inl τ)
  | 16 => .inl (Y.1, 12, .inl τ)
  | 17 => .inl (Y.1, 40, .inl τ)
  | 18 => .inl (Y.2.2.1, 40, .inl τ)
  | 19 => .inl (Y.2.2.1, 1600, .inl τ)
  | 20 => .inl (Y.1, 48, .inl τ)
  | 21 => .inl (Y.1, 48, .inl τ)
  | 22 => .inl (Y.1, 48, .inl τ)
  | 23 => .inl (Y.1, 48, .inl τ)
  | 24 => .inl (Y.1, 24, .inl τ)
  | 25 => .inl (Y.1, 24, .inl τ)
  | _ => .inl (Y.1, 24, .inl τ)
theorem km0 (g : Nat → Nat) (Y : YT) (τ : Nat → Int32) : KM g Y 0 τ = .inr (10, [.int (τ 0), .ref (g 1), .ref (g 2), .ref (g 3), .ref (g 4), .ref (g 5), .ref (g 6), .int (τ 7), .ref (g 7), .ref (g 8), .int (τ 10), .ref (g 9), .ref (g 10), .int (τ 13), .ref (g 11), .ref (g 12), .ref (g 13), .int (τ 17), .int (τ 18), .int (τ 19), .ref (g 14), .ref (g 15), .ref (g 16), .ref (g 17), .ref (g 18), .ref (g 19), .ref (g 20), .ref (g 21), .ref (g 22), .ref (g 23), .ref (g 24), .ref (g 25), .int (τ 32), .int (τ 33), .int (τ 34), .int (τ 35), .ref (g 26)]) := rfl
theorem kms0_0 (g : Nat → Nat) (Y : YT) (τ : Nat → Int32) (x : Int32) : KM g Y 0 (upd τ 0 x) = .inr (10, [.int (τ 0), .ref (g 1), .ref (g 2), .ref (g 3), .ref (g 4), .ref (g 5), .ref (g 6), .int (τ 7), .ref (g 7), .ref (g 8), .int (τ 10), .ref (g 9), .ref (g 10), .int (τ 13), .ref (g 11), .ref (g 12), .ref (g 13), .int (τ 17), .int (τ 18), .int (τ 19), .ref (g 14), .ref (g 15), .ref (g 16), .ref (g 17), .ref (g 18), .ref (g 19), .ref (g 20), .ref (g 21), .ref (g 22), .ref (g 23), .ref (g 24), .ref (g 25), .int (τ 32), .int (τ 33), .int (τ 34), .int (τ 35), .ref (g 26)].set 0 (.int x)) := rfl
theorem kms0_7 (g : Nat → Nat) (Y : YT) (τ : Nat → Int32) (x : Int32) : KM g Y 0 (upd τ 7 x) = .inr (10, [.int (τ 0), .ref (g 1), .ref (g 2), .ref (g 3), .ref (g 4), .ref (g 5), .ref (g 6), .int (τ 7), .ref (g 7), .ref (g 8), .int (τ 10), .ref (g 9), .ref (g 10), .int (τ 13), .ref (g 11), .ref (g 12), .ref (g 13), .int (τ 17), .int (τ 18), .int (τ 19), .ref (g 14), .ref (g 15), .ref (g 16), .ref (g 17), .ref (g 18), .ref (g 19), .ref (g 20), .ref (g 21), .ref (g 22), .ref (g 23), .ref (g 24), .ref (g 25), .int (τ 32), .int (τ 33), .int (τ 34), .int (τ 35), .ref (g 26)].set 7 (.int x)) := rfl
theorem kms0_10 (g : Nat → Nat) (Y : YT) (τ : Nat → Int32) (x : Int32) : KM g Y 0 (upd τ 10 x) = .inr (10, [.int (τ 0), .ref (g 1), .ref (g 2), .ref (g 3), .ref (g 4), .ref (g 5), .ref (g 6), .int (τ 7), .ref (g 7), .ref (g 8), .int (τ 10), .ref (g 9), .ref (g 10), .int (τ 13), .ref (g 11), .ref (g 12), .ref (g 13), .int (τ 17), .int (τ 18), .int (τ 19), .ref (g 14), .ref (g 15), .ref (g 16), .ref (g 17), .ref (g 18), .ref (g 19), .ref (g 20), .ref (g 21), .ref (g 22), .ref (g 23), .ref (g 24), .ref (g 25), .int (τ 32), .int (τ 33), .int (τ 34), .int (τ 35), .ref (g 26)].set 10 (.int x)) := rfl
theorem kms0_13 (g : Nat → Nat) (Y : YT) (τ : Nat → Int32) (x : Int32) : KM g Y 0 (upd τ 13 x) = .inr (10, [.int (τ 0), .ref (g 1), .ref (g 2), .ref (g 3), .ref (g 4), .ref (g 5), .ref (g 6), .int (τ 7), .ref (g 7), .ref (g 8), .int (τ 10), .ref (g 9), .ref (g 10), .int (τ 13), .ref (g 11), .ref (g 12), .ref (g 13), .int (τ 17), .int (τ 18), .int (τ 19), .ref (g 14), .ref (g 15), .ref (g 16), .ref (g 17), .ref (g 18), .ref (g 19), .ref (g 20), .ref (g 21), .ref (g 22), .ref (g 23), .ref (g 24), .ref (g 25), .int (τ 32), .int (τ 33), .int (τ 34), .int (τ 35), .ref (g 26)].set 13 (.int x)) := rfl
theorem kms0_17 (g : Nat → Nat) (Y : YT) (τ : Nat → Int32) (x : Int32) : KM g Y 0 (upd τ 17 x) = .inr (10, [.int (τ 0), .ref (g 1), .ref (g 2), .ref (g 3), .ref (g 4), .ref (g 5), .ref (g 6), .int (τ 7), .ref (g 7), .ref (g 8), .int (τ 10), .ref (g 9), .ref (g 10), .int (τ 13), .ref (g 11), .ref (g 12), .ref (g 13), .int (τ 17), .int (τ 18), .int (τ 19), .ref (g 14), .ref (g 15), .ref (g 16), .ref (g 17), .ref (g 18), .ref (g 19), .ref (g 20), .ref (g 21), .ref (g 22), .ref (g 23), .ref (g 24), .ref (g 25), .int (τ 32), .int (τ 33), .int (τ 34), .int (τ 35), .ref (g 26)].set 17 (.int x)) := rfl
theorem kms0_18 (g : Nat → Nat) (Y : YT) (τ : Nat → Int32) (x : Int32) : KM g Y 0 (upd τ 18 x) = .inr (10, [.int (τ 0), .ref (g 1), .ref (g 2), .ref (g 3), .ref (g 4), .ref (g 5), .ref (g 6), .int (τ 7), .ref (g 7), .ref (g 8), .int (τ 10), .ref (g 9), .ref (g 10), .int (τ 13), .ref (g 11), .ref (g 12), .ref (g 13), .int (τ 17), .int (τ 18), .int (τ 19), .ref (g 14), .ref (g 15), .ref (g 16), .ref (g 17), .ref (g 18), .ref (g 19), .ref (g 20), .ref (g 21), .ref (g 22), .ref (g 23), .ref (g 24), .ref (g 25), .int (τ 32), .int (τ 33), .int (τ 34), .int (τ 35), .ref (g 26)].set 18 (.int x)) := rfl
theorem kms0_19 (g : Nat → Nat) (Y : YT) (τ : Nat → Int32) (x : Int32) : KM g Y 0 (upd τ 19 x) = .inr (10, [.int (τ 0), .ref (g 1), .ref (g 2), .ref (g 3), .ref (g 4), .ref (g 5), .ref (g 6), .int (τ 7), .ref (g 7), .ref (g 8), .int (τ 10), .ref (g 9), .ref (g 10), .int (τ 13), .ref (g 11), .ref (g 12), .ref (g 13), .int (τ 17), .int (τ 18), .int (τ 19), .ref (g 14), .ref (g 15), .ref (g 16), .ref (g 17), .ref (g 18), .ref (g 19), .ref (g 20), .ref (g 21), .ref (g 22), .ref (g 23), .ref (g 24), .ref (g 25), .int (τ 32), .int (τ 33), .int (τ 34), .int (τ 35), .ref (g 26)].set 19 (.int x)) := rfl
theorem kms0_32 (g : Nat → Nat) (Y : YT) (τ : Nat → Int32) (x : Int32) : KM g Y 0 (upd τ 32 x) = .inr (10, [.int (τ 0), .ref (g 1), .ref (g 2), .ref (g 3), .ref (g 4), .ref (g 5), .ref (g 6), .int (τ 7), .ref (g 7), .ref (g 8), .int (τ 10), .ref (g 9), .ref (g 10), .int (τ 13), .ref (g 11), .ref (g 12), .ref (g 13), .int (τ 17), .int (τ 18), .int (τ 19), .ref (g 14), .ref (g 15), .ref (g 16), .ref (g 17), .ref (g 18), .ref (g 19), .ref (g 20), .ref (g 21), .ref (g 22), .ref (g 23), .ref (g 24), .ref (g 25), .int (τ 32), .int (τ 33), .int (τ 34), .int (τ 35), .ref (g 26)].set 32 (.int x)) := rfl
theorem kms0_33 (g : Nat → Nat) (Y : YT) (τ : Nat → Int32) (x : Int32) : KM g Y 0 (upd τ 33 x) = .inr (10, [.int (τ 0), .ref (g 1), .ref (g 2), .ref (g 3), .ref (g 4), .ref (g 5), .ref (g 6), .int (τ 7), .ref (g 7), .ref (g 8), .int (τ 10), .ref (g 9), .ref (g 10), .int (τ 13), .ref (g 11), .ref (g 12), .ref (g 13), .int (τ 17), .int (τ 18), .int (τ 19), .ref (g 14), .ref (g 15), .ref (g 16), .ref (g 17), .ref (g 18), .ref (g 19), .ref (g 20), .ref (g 21), .ref (g 22), .ref (g 23), .ref (g 24), .ref (g 25), .int (τ 32), .int (τ 33), .int (τ 34), .int (τ 35), .ref (g 26)].set 33 (.int x)) := rfl
theorem kms0_34 (g : Nat → Nat) (Y : YT) (τ : Nat → Int32) (x : Int32) : KM g Y 0 (upd τ 34 x) = .inr (10, [.int (τ 0), .ref (g 1), .ref (g 2), .ref (g 3), .ref (g 4), .ref (g 5), .ref (g 6), .int (τ 7), .ref (g 7), .ref (g 8), .int (τ 10), .ref (g 9), .ref (g 10), .int (τ 13), .ref (g 11), .ref (g 12), .ref (g 13), .int (τ 17), .int (τ 18), .int (τ 19), .ref (g 14), .ref (g 15), .ref (g 16), .ref (g 17), .ref (g 18), .ref (g 19), .ref (g 20), .ref (g 21), .ref (g 22), .ref (g 23), .ref (g 24), .ref (g 25), .int (τ 32), .int (τ 33), .int (τ 34), .int (τ 35), .ref (g 26)].set 34 (.int x)) := rfl
theorem kms0_35 (g : Nat → Nat) (Y : YT) (τ : Nat → Int32) (x : Int32) : KM g Y 0 (upd τ 35 x) = .inr (10, [.int (τ 0), .ref (g 1), .ref (g 2), .ref (g 3), .ref (g 4), .ref (g 5), .ref (g 6), .int (τ 7), .ref (g 7), .ref (g 8), .int (τ 10), .ref (g 9), .ref (g 10), .int (τ 13), .ref (g 11), .ref (g 12), .ref (g 13), .int (τ 17), .int (τ 18), .int (τ 19), .ref (g 14), .ref (g 15), .ref (g 16), .ref (g 17), .ref (g 18), .ref (g 19), .ref (g 20), .ref (g 21), .ref (g 22), .ref (g 23), .ref (g 24), .ref (g 25), .int (τ 32), .int (τ 33), .int (τ 34), .int (τ 35), .ref (g 26)].set 35 (.int x)) := rfl
theorem km1 (g : Nat → Nat) (Y : YT) (τ : Nat → Int32) : KM g Y 1 τ = .inl (Y.1, 6, .inl τ) := rfl
theorem km2 (g : Nat → Nat) (Y : YT) (τ : Nat → Int32) : KM g Y 2 τ = .inl (Y.1, 6, .inl τ) := rfl
theorem km3 (g : Nat → Nat) (Y : YT) (τ : Nat → Int32) : KM g Y 3 τ = .inl (Y.1, 6, .inl τ) := rfl
theorem km4 (g : Nat → Nat) (Y : YT) (τ : Nat → Int32) : KM g Y 4 τ = .inl (Y.1, 6, .inl τ) := rfl
theorem km5 (g : Nat → Nat) (Y : YT) (τ : Nat → Int32) : KM g Y 5 τ = .inl (Y.1, 36, .inl τ) := rfl
theorem km6 (g : Nat → Nat) (Y : YT) (τ : Nat → Int32) : KM g Y 6 τ = .inl (Y.1, 36, .inl τ) := rfl
theorem km7 (g : Nat → Nat) (Y : YT) (τ : Nat → Int32) : KM g Y 7 τ = .inl (Y.1, 8, .inl τ) := rfl
theorem km8 (g : Nat → Nat) (Y : YT) (τ : Nat → Int32) : KM g Y 8 τ = .inl (Y.1, 8, .inl τ) := rfl
theorem km9 (g : Nat → Nat) (Y : YT) (τ : Nat → Int32) : KM g Y 9 τ = .inl (Y.1, 6, .inl τ) := rfl
theorem km10 (g : Nat → Nat) (Y : YT) (τ : Nat → Int32) : KM g Y 10 τ = .inl (Y.1, 40, .inl τ) := rfl
theorem km11 (g : Nat → Nat) (Y : YT) (τ : Nat → Int32) : KM g Y 11 τ = .inl (Y.1, 30, .inl τ) := rfl
theorem km12 (g : Nat → Nat) (Y : YT) (τ : Nat → Int32) : KM g Y 12 τ = .inl (Y.1, 24, .inl τ) := rfl
theorem km13 (g : Nat → Nat) (Y : YT) (τ : Nat → Int32) : KM g Y 13 τ = .inl (Y.1, 24, .inl τ) := rfl
theorem km14 (g : Nat → Nat) (Y : YT) (τ : Nat → Int32) : KM g Y 14 τ = .inl (Y.1, 2, .inl τ) := rfl
theorem km15 (g : Nat → Nat) (Y : YT) (τ : Nat → Int32) : KM g Y 15 τ = .inl (Y.1, 48, .inl τ) := rfl
theorem km16 (g : Nat → Nat) (Y : YT) (τ : Nat → Int32) : KM g Y 16 τ = .inl (Y.1, 12, .inl τ) := rfl
theorem km17 (g : Nat → Nat) (Y : YT) (τ : Nat → Int32) : KM g Y 17 τ = .inl (Y.1, 40, .inl τ) := rfl
theorem km18 (g : Nat → Nat) (Y : YT) (τ : Nat → Int32) : KM g Y 18 τ = .inl (Y.2.2.1, 40, .inl τ) := rfl
theorem km19 (g : Nat → Nat) (Y : YT) (τ : Nat → Int32) : KM g Y 19 τ = .inl (Y.2.2.1, 1600, .inl τ) := rfl
theorem km20 (g : Nat → Nat) (Y : YT) (τ : Nat → Int32) : KM g Y 20 τ = .inl (Y.1, 48, .inl τ) := rfl
theorem km21 (g : Nat → Nat) (Y : YT) (τ : Nat → Int32) : KM g Y 21 τ = .inl (Y.1, 48, .inl τ) := rfl
theorem km22 (g : Nat → Nat) (Y : YT) (τ : Nat → Int32) : KM g Y 22 τ = .inl (Y.1, 48, .inl τ) := rfl
theorem km23 (g : Nat → Nat) (Y : YT) (τ : Nat → Int32) : KM g Y 23 τ = .inl (Y.1, 48, .inl τ) := rfl
theorem km24 (g : Nat → Nat) (Y : YT) (τ : Nat → Int32) : KM g Y 24 τ = .inl (Y.1, 24, .inl τ) := rfl
theorem km25 (g : Nat → Nat) (Y : YT) (τ : Nat → Int32) : KM g Y 25 τ = .inl (Y.1, 24, .inl τ) := rfl
theorem km26 (g : Nat → Nat) (Y : YT) (τ : Nat → Int32) : KM g Y 26 τ = .inl (Y.1, 24, .inl τ) := rfl
