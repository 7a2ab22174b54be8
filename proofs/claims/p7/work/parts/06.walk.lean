theorem dk_2 (c : ByteArray) (p : Nat) (h0 : (Reader.u1 : Decoder Nat) c p = .ok (2, p + 1)) : decode c p = .ok (.iconst (-1), 1) := by
  have e : decode c p = Except.bind (Except.bind ((Reader.u1 : Decoder Nat) c p) _) _ := rfl
  rw [e, h0]
  show (Except.ok (.iconst (-1), p + 1 - p) : Except DecodeError (Instr × Nat)) = _
  rw [show p + 1 - p = 1 by omega]
theorem dk_3 (c : ByteArray) (p : Nat) (h0 : (Reader.u1 : Decoder Nat) c p = .ok (3, p + 1)) : decode c p = .ok (.iconst 0, 1) := by
  have e : decode c p = Except.bind (Except.bind ((Reader.u1 : Decoder Nat) c p) _) _ := rfl
  rw [e, h0]
  show (Except.ok (.iconst 0, p + 1 - p) : Except DecodeError (Instr × Nat)) = _
  rw [show p + 1 - p = 1 by omega]
theorem dk_4 (c : ByteArray) (p : Nat) (h0 : (Reader.u1 : Decoder Nat) c p = .ok (4, p + 1)) : decode c p = .ok (.iconst 1, 1) := by
  have e : decode c p = Except.bind (Except.bind ((Reader.u1 : Decoder Nat) c p) _) _ := rfl
  rw [e, h0]
  show (Except.ok (.iconst 1, p + 1 - p) : Except DecodeError (Instr × Nat)) = _
  rw [show p + 1 - p = 1 by omega]
theorem dk_5 (c : ByteArray) (p : Nat) (h0 : (Reader.u1 : Decoder Nat) c p = .ok (5, p + 1)) : decode c p = .ok (.iconst 2, 1) := by
  have e : decode c p = Except.bind (Except.bind ((Reader.u1 : Decoder Nat) c p) _) _ := rfl
  rw [e, h0]
  show (Except.ok (.iconst 2, p + 1 - p) : Except DecodeError (Instr × Nat)) = _
  rw [show p + 1 - p = 1 by omega]
theorem dk_6 (c : ByteArray) (p : Nat) (h0 : (Reader.u1 : Decoder Nat) c p = .ok (6, p + 1)) : decode c p = .ok (.iconst 3, 1) := by
  have e : decode c p = Except.bind (Except.bind ((Reader.u1 : Decoder Nat) c p) _) _ := rfl
  rw [e, h0]
  show (Except.ok (.iconst 3, p + 1 - p) : Except DecodeError (Instr × Nat)) = _
  rw [show p + 1 - p = 1 by omega]
theorem dk_7 (c : ByteArray) (p : Nat) (h0 : (Reader.u1 : Decoder Nat) c p = .ok (7, p + 1)) : decode c p = .ok (.iconst 4, 1) := by
  have e : decode c p = Except.bind (Except.bind ((Reader.u1 : Decoder Nat) c p) _) _ := rfl
  rw [e, h0]
  show (Except.ok (.iconst 4, p + 1 - p) : Except DecodeError (Instr × Nat)) = _
  rw [show p + 1 - p = 1 by omega]
theorem dk_8 (c : ByteArray) (p : Nat) (h0 : (Reader.u1 : Decoder Nat) c p = .ok (8, p + 1)) : decode c p = .ok (.iconst 5, 1) := by
  have e : decode c p = Except.bind (Except.bind ((Reader.u1 : Decoder Nat) c p) _) _ := rfl
  rw [e, h0]
  show (Except.ok (.iconst 5, p + 1 - p) : Except DecodeError (Instr × Nat)) = _
  rw [show p + 1 - p = 1 by omega]
theorem dk_9 (c : ByteArray) (p : Nat) (h0 : (Reader.u1 : Decoder Nat) c p = .ok (9, p + 1)) : decode c p = .ok (.lconst 0, 1) := by
  have e : decode c p = Except.bind (Except.bind ((Reader.u1 : Decoder Nat) c p) _) _ := rfl
  rw [e, h0]
  show (Except.ok (.lconst 0, p + 1 - p) : Except DecodeError (Instr × Nat)) = _
  rw [show p + 1 - p = 1 by omega]
theorem dk_10 (c : ByteArray) (p : Nat) (h0 : (Reader.u1 : Decoder Nat) c p = .ok (10, p + 1)) : decode c p = .ok (.lconst 1, 1) := by
  have e : decode c p = Except.bind (Except.bind ((Reader.u1 : Decoder Nat) c p) _) _ := rfl
  rw [e, h0]
  show (Except.ok (.lconst 1, p + 1 - p) : Except DecodeError (Instr × Nat)) = _
  rw [show p + 1 - p = 1 by omega]
theorem dk_16 (c : ByteArray) (p : Nat) (h0 : (Reader.u1 : Decoder Nat) c p = .ok (16, p + 1)) (b1 : Nat) (h1 : (Reader.u1 : Decoder Nat) c (p + 1) = .ok (b1, p + 1 + 1)) : decode c p = .ok (.bipush (Reader.signed 8 b1), 2) := by
  have e : decode c p = Except.bind (Except.bind ((Reader.u1 : Decoder Nat) c p) _) _ := rfl
  rw [e, h0]
  show Except.bind (Except.bind (Except.bind ((Reader.u1 : Decoder Nat) c (p + 1)) _) _) _ = _
  rw [h1]
  show (Except.ok (.bipush (Reader.signed 8 b1), p + 1 + 1 - p) : Except DecodeError (Instr × Nat)) = _
  rw [show p + 1 + 1 - p = 2 by omega]
theorem dk_17 (c : ByteArray) (p : Nat) (h0 : (Reader.u1 : Decoder Nat) c p = .ok (17, p + 1)) (b1 : Nat) (h1 : (Reader.u1 : Decoder Nat) c (p + 1) = .ok (b1, p + 1 + 1)) (b2 : Nat) (h2 : (Reader.u1 : Decoder Nat) c (p + 1 + 1) = .ok (b2, p + 1 + 1 + 1)) : decode c p = .ok (.sipush (Reader.signed 16 (b1 * 256 + b2)), 3) := by
  have e : decode c p = Except.bind (Except.bind ((Reader.u1 : Decoder Nat) c p) _) _ := rfl
  rw [e, h0]
  show Except.bind (Except.bind (Except.bind (Except.bind ((Reader.u1 : Decoder Nat) c (p + 1)) _) _) _) _ = _
  rw [h1]
  show Except.bind (Except.bind (Except.bind (Except.bind ((Reader.u1 : Decoder Nat) c (p + 1 + 1)) _) _) _) _ = _
  rw [h2]
  show (Except.ok (.sipush (Reader.signed 16 (b1 * 256 + b2)), p + 1 + 1 + 1 - p) : Except DecodeError (Instr × Nat)) = _
  rw [show p + 1 + 1 + 1 - p = 3 by omega]
theorem dk_18 (c : ByteArray) (p : Nat) (h0 : (Reader.u1 : Decoder Nat) c p = .ok (18, p + 1)) (b1 : Nat) (h1 : (Reader.u1 : Decoder Nat) c (p + 1) = .ok (b1, p + 1 + 1)) : decode c p = .ok (.ldc b1, 2) := by
  have e : decode c p = Except.bind (Except.bind ((Reader.u1 : Decoder Nat) c p) _) _ := rfl
  rw [e, h0]
  show Except.bind (Except.bind ((Reader.u1 : Decoder Nat) c (p + 1)) _) _ = _
  rw [h1]
  show (Except.ok (.ldc b1, p + 1 + 1 - p) : Except DecodeError (Instr × Nat)) = _
  rw [show p + 1 + 1 - p = 2 by omega]
theorem dk_19 (c : ByteArray) (p : Nat) (h0 : (Reader.u1 : Decoder Nat) c p = .ok (19, p + 1)) (b1 : Nat) (h1 : (Reader.u1 : Decoder Nat) c (p + 1) = .ok (b1, p + 1 + 1)) (b2 : Nat) (h2 : (Reader.u1 : Decoder Nat) c (p + 1 + 1) = .ok (b2, p + 1 + 1 + 1)) : decode c p = .ok (.ldc_w (b1 * 256 + b2), 3) := by
  have e : decode c p = Except.bind (Except.bind ((Reader.u1 : Decoder Nat) c p) _) _ := rfl
  rw [e, h0]
  show Except.bind (Except.bind (Except.bind ((Reader.u1 : Decoder Nat) c (p + 1)) _) _) _ = _
  rw [h1]
  show Except.bind (Except.bind (Except.bind ((Reader.u1 : Decoder Nat) c (p + 1 + 1)) _) _) _ = _
  rw [h2]
  show (Except.ok (.ldc_w (b1 * 256 + b2), p + 1 + 1 + 1 - p) : Except DecodeError (Instr × Nat)) = _
  rw [show p + 1 + 1 + 1 - p = 3 by omega]
theorem dk_20 (c : ByteArray) (p : Nat) (h0 : (Reader.u1 : Decoder Nat) c p = .ok (20, p + 1)) (b1 : Nat) (h1 : (Reader.u1 : Decoder Nat) c (p + 1) = .ok (b1, p + 1 + 1)) (b2 : Nat) (h2 : (Reader.u1 : Decoder Nat) c (p + 1 + 1) = .ok (b2, p + 1 + 1 + 1)) : decode c p = .ok (.ldc2_w (b1 * 256 + b2), 3) := by
  have e : decode c p = Except.bind (Except.bind ((Reader.u1 : Decoder Nat) c p) _) _ := rfl
  rw [e, h0]
  show Except.bind (Except.bind (Except.bind ((Reader.u1 : Decoder Nat) c (p + 1)) _) _) _ = _
  rw [h1]
  show Except.bind (Except.bind (Except.bind ((Reader.u1 : Decoder Nat) c (p + 1 + 1)) _) _) _ = _
  rw [h2]
  show (Except.ok (.ldc2_w (b1 * 256 + b2), p + 1 + 1 + 1 - p) : Except DecodeError (Instr × Nat)) = _
  rw [show p + 1 + 1 + 1 - p = 3 by omega]
theorem dk_21 (c : ByteArray) (p : Nat) (h0 : (Reader.u1 : Decoder Nat) c p = .ok (21, p + 1)) (b1 : Nat) (h1 : (Reader.u1 : Decoder Nat) c (p + 1) = .ok (b1, p + 1 + 1)) : decode c p = .ok (.iload b1, 2) := by
  have e : decode c p = Except.bind (Except.bind ((Reader.u1 : Decoder Nat) c p) _) _ := rfl
  rw [e, h0]
  show Except.bind (Except.bind ((Reader.u1 : Decoder Nat) c (p + 1)) _) _ = _
  rw [h1]
  show (Except.ok (.iload b1, p + 1 + 1 - p) : Except DecodeError (Instr × Nat)) = _
  rw [show p + 1 + 1 - p = 2 by omega]
theorem dk_22 (c : ByteArray) (p : Nat) (h0 : (Reader.u1 : Decoder Nat) c p = .ok (22, p + 1)) (b1 : Nat) (h1 : (Reader.u1 : Decoder Nat) c (p + 1) = .ok (b1, p + 1 + 1)) : decode c p = .ok (.lload b1, 2) := by
  have e : decode c p = Except.bind (Except.bind ((Reader.u1 : Decoder Nat) c p) _) _ := rfl
  rw [e, h0]
  show Except.bind (Except.bind ((Reader.u1 : Decoder Nat) c (p + 1)) _) _ = _
  rw [h1]
  show (Except.ok (.lload b1, p + 1 + 1 - p) : Except DecodeError (Instr × Nat)) = _
  rw [show p + 1 + 1 - p = 2 by omega]
theorem dk_25 (c : ByteArray) (p : Nat) (h0 : (Reader.u1 : Decoder Nat) c p = .ok (25, p + 1)) (b1 : Nat) (h1 : (Reader.u1 : Decoder Nat) c (p + 1) = .ok (b1, p + 1 + 1)) : decode c p = .ok (.aload b1, 2) := by
  have e : decode c p = Except.bind (Except.bind ((Reader.u1 : Decoder Nat) c p) _) _ := rfl
  rw [e, h0]
  show Except.bind (Except.bind ((Reader.u1 : Decoder Nat) c (p + 1)) _) _ = _
  rw [h1]
  show (Except.ok (.aload b1, p + 1 + 1 - p) : Except DecodeError (Instr × Nat)) = _
  rw [show p + 1 + 1 - p = 2 by omega]
theorem dk_26 (c : ByteArray) (p : Nat) (h0 : (Reader.u1 : Decoder Nat) c p = .ok (26, p + 1)) : decode c p = .ok (.iload_n 0, 1) := by
  have e : decode c p = Except.bind (Except.bind ((Reader.u1 : Decoder Nat) c p) _) _ := rfl
  rw [e, h0]
  show (Except.ok (.iload_n 0, p + 1 - p) : Except DecodeError (Instr × Nat)) = _
  rw [show p + 1 - p = 1 by omega]
theorem dk_27 (c : ByteArray) (p : Nat) (h0 : (Reader.u1 : Decoder Nat) c p = .ok (27, p + 1)) : decode c p = .ok (.iload_n 1, 1) := by
  have e : decode c p = Except.bind (Except.bind ((Reader.u1 : Decoder Nat) c p) _) _ := rfl
  rw [e, h0]
  show (Except.ok (.iload_n 1, p + 1 - p) : Except DecodeError (Instr × Nat)) = _
  rw [show p + 1 - p = 1 by omega]
theorem dk_28 (c : ByteArray) (p : Nat) (h0 : (Reader.u1 : Decoder Nat) c p = .ok (28, p + 1)) : decode c p = .ok (.iload_n 2, 1) := by
  have e : decode c p = Except.bind (Except.bind ((Reader.u1 : Decoder Nat) c p) _) _ := rfl
  rw [e, h0]
  show (Except.ok (.iload_n 2, p + 1 - p) : Except DecodeError (Instr × Nat)) = _
  rw [show p + 1 - p = 1 by omega]
theorem dk_29 (c : ByteArray) (p : Nat) (h0 : (Reader.u1 : Decoder Nat) c p = .ok (29, p + 1)) : decode c p = .ok (.iload_n 3, 1) := by
  have e : decode c p = Except.bind (Except.bind ((Reader.u1 : Decoder Nat) c p) _) _ := rfl
  rw [e, h0]
  show (Except.ok (.iload_n 3, p + 1 - p) : Except DecodeError (Instr × Nat)) = _
  rw [show p + 1 - p = 1 by omega]
theorem dk_30 (c : ByteArray) (p : Nat) (h0 : (Reader.u1 : Decoder Nat) c p = .ok (30, p + 1)) : decode c p = .ok (.lload_n 0, 1) := by
  have e : decode c p = Except.bind (Except.bind ((Reader.u1 : Decoder Nat) c p) _) _ := rfl
  rw [e, h0]
  show (Except.ok (.lload_n 0, p + 1 - p) : Except DecodeError (Instr × Nat)) = _
  rw [show p + 1 - p = 1 by omega]
theorem dk_31 (c : ByteArray) (p : Nat) (h0 : (Reader.u1 : Decoder Nat) c p = .ok (31, p + 1)) : decode c p = .ok (.lload_n 1, 1) := by
  have e : decode c p = Except.bind (Except.bind ((Reader.u1 : Decoder Nat) c p) _) _ := rfl
  rw [e, h0]
  show (Except.ok (.lload_n 1, p + 1 - p) : Except DecodeError (Instr × Nat)) = _
  rw [show p + 1 - p = 1 by omega]
theorem dk_32 (c : ByteArray) (p : Nat) (h0 : (Reader.u1 : Decoder Nat) c p = .ok (32, p + 1)) : decode c p = .ok (.lload_n 2, 1) := by
  have e : decode c p = Except.bind (Except.bind ((Reader.u1 : Decoder Nat) c p) _) _ := rfl
  rw [e, h0]
  show (Except.ok (.lload_n 2, p + 1 - p) : Except DecodeError (Instr × Nat)) = _
  rw [show p + 1 - p = 1 by omega]
theorem dk_33 (c : ByteArray) (p : Nat) (h0 : (Reader.u1 : Decoder Nat) c p = .ok (33, p + 1)) : decode c p = .ok (.lload_n 3, 1) := by
  have e : decode c p = Except.bind (Except.bind ((Reader.u1 : Decoder Nat) c p) _) _ := rfl
  rw [e, h0]
  show (Except.ok (.lload_n 3, p + 1 - p) : Except DecodeError (Instr × Nat)) = _
  rw [show p + 1 - p = 1 by omega]
theorem dk_42 (c : ByteArray) (p : Nat) (h0 : (Reader.u1 : Decoder Nat) c p = .ok (42, p + 1)) : decode c p = .ok (.aload_n 0, 1) := by
  have e : decode c p = Except.bind (Except.bind ((Reader.u1 : Decoder Nat) c p) _) _ := rfl
  rw [e, h0]
  show (Except.ok (.aload_n 0, p + 1 - p) : Except DecodeError (Instr × Nat)) = _
  rw [show p + 1 - p = 1 by omega]
theorem dk_43 (c : ByteArray) (p : Nat) (h0 : (Reader.u1 : Decoder Nat) c p = .ok (43, p + 1)) : decode c p = .ok (.aload_n 1, 1) := by
  have e : decode c p = Except.bind (Except.bind ((Reader.u1 : Decoder Nat) c p) _) _ := rfl
  rw [e, h0]
  show (Except.ok (.aload_n 1, p + 1 - p) : Except DecodeError (Instr × Nat)) = _
  rw [show p + 1 - p = 1 by omega]
theorem dk_44 (c : ByteArray) (p : Nat) (h0 : (Reader.u1 : Decoder Nat) c p = .ok (44, p + 1)) : decode c p = .ok (.aload_n 2, 1) := by
  have e : decode c p = Except.bind (Except.bind ((Reader.u1 : Decoder Nat) c p) _) _ := rfl
  rw [e, h0]
  show (Except.ok (.aload_n 2, p + 1 - p) : Except DecodeError (Instr × Nat)) = _
  rw [show p + 1 - p = 1 by omega]
theorem dk_45 (c : ByteArray) (p : Nat) (h0 : (Reader.u1 : Decoder Nat) c p = .ok (45, p + 1)) : decode c p = .ok (.aload_n 3, 1) := by
  have e : decode c p = Except.bind (Except.bind ((Reader.u1 : Decoder Nat) c p) _) _ := rfl
  rw [e, h0]
  show (Except.ok (.aload_n 3, p + 1 - p) : Except DecodeError (Instr × Nat)) = _
  rw [show p + 1 - p = 1 by omega]
theorem dk_46 (c : ByteArray) (p : Nat) (h0 : (Reader.u1 : Decoder Nat) c p = .ok (46, p + 1)) : decode c p = .ok (.iaload, 1) := by
  have e : decode c p = Except.bind (Except.bind ((Reader.u1 : Decoder Nat) c p) _) _ := rfl
  rw [e, h0]
  show (Except.ok (.iaload, p + 1 - p) : Except DecodeError (Instr × Nat)) = _
  rw [show p + 1 - p = 1 by omega]
theorem dk_50 (c : ByteArray) (p : Nat) (h0 : (Reader.u1 : Decoder Nat) c p = .ok (50, p + 1)) : decode c p = .ok (.aaload, 1) := by
  have e : decode c p = Except.bind (Except.bind ((Reader.u1 : Decoder Nat) c p) _) _ := rfl
  rw [e, h0]
  show (Except.ok (.aaload, p + 1 - p) : Except DecodeError (Instr × Nat)) = _
  rw [show p + 1 - p = 1 by omega]
theorem dk_54 (c : ByteArray) (p : Nat) (h0 : (Reader.u1 : Decoder Nat) c p = .ok (54, p + 1)) (b1 : Nat) (h1 : (Reader.u1 : Decoder Nat) c (p + 1) = .ok (b1, p + 1 + 1)) : decode c p = .ok (.istore b1, 2) := by
  have e : decode c p = Except.bind (Except.bind ((Reader.u1 : Decoder Nat) c p) _) _ := rfl
  rw [e, h0]
  show Except.bind (Except.bind ((Reader.u1 : Decoder Nat) c (p + 1)) _) _ = _
  rw [h1]
  show (Except.ok (.istore b1, p + 1 + 1 - p) : Except DecodeError (Instr × Nat)) = _
  rw [show p + 1 + 1 - p = 2 by omega]
theorem dk_55 (c : ByteArray) (p : Nat) (h0 : (Reader.u1 : Decoder Nat) c p = .ok (55, p + 1)) (b1 : Nat) (h1 : (Reader.u1 : Decoder Nat) c (p + 1) = .ok (b1, p + 1 + 1)) : decode c p = .ok (.lstore b1, 2) := by
  have e : decode c p = Except.bind (Except.bind ((Reader.u1 : Decoder Nat) c p) _) _ := rfl
  rw [e, h0]
  show Except.bind (Except.bind ((Reader.u1 : Decoder Nat) c (p + 1)) _) _ = _
  rw [h1]
  show (Except.ok (.lstore b1, p + 1 + 1 - p) : Except DecodeError (Instr × Nat)) = _
  rw [show p + 1 + 1 - p = 2 by omega]
theorem dk_58 (c : ByteArray) (p : Nat) (h0 : (Reader.u1 : Decoder Nat) c p = .ok (58, p + 1)) (b1 : Nat) (h1 : (Reader.u1 : Decoder Nat) c (p + 1) = .ok (b1, p + 1 + 1)) : decode c p = .ok (.astore b1, 2) := by
  have e : decode c p = Except.bind (Except.bind ((Reader.u1 : Decoder Nat) c p) _) _ := rfl
  rw [e, h0]
  show Except.bind (Except.bind ((Reader.u1 : Decoder Nat) c (p + 1)) _) _ = _
  rw [h1]
  show (Except.ok (.astore b1, p + 1 + 1 - p) : Except DecodeError (Instr × Nat)) = _
  rw [show p + 1 + 1 - p = 2 by omega]
theorem dk_59 (c : ByteArray) (p : Nat) (h0 : (Reader.u1 : Decoder Nat) c p = .ok (59, p + 1)) : decode c p = .ok (.istore_n 0, 1) := by
  have e : decode c p = Except.bind (Except.bind ((Reader.u1 : Decoder Nat) c p) _) _ := rfl
  rw [e, h0]
  show (Except.ok (.istore_n 0, p + 1 - p) : Except DecodeError (Instr × Nat)) = _
  rw [show p + 1 - p = 1 by omega]
theorem dk_60 (c : ByteArray) (p : Nat) (h0 : (Reader.u1 : Decoder Nat) c p = .ok (60, p + 1)) : decode c p = .ok (.istore_n 1, 1) := by
  have e : decode c p = Except.bind (Except.bind ((Reader.u1 : Decoder Nat) c p) _) _ := rfl
  rw [e, h0]
  show (Except.ok (.istore_n 1, p + 1 - p) : Except DecodeError (Instr × Nat)) = _
  rw [show p + 1 - p = 1 by omega]
theorem dk_61 (c : ByteArray) (p : Nat) (h0 : (Reader.u1 : Decoder Nat) c p = .ok (61, p + 1)) : decode c p = .ok (.istore_n 2, 1) := by
  have e : decode c p = Except.bind (Except.bind ((Reader.u1 : Decoder Nat) c p) _) _ := rfl
  rw [e, h0]
  show (Except.ok (.istore_n 2, p + 1 - p) : Except DecodeError (Instr × Nat)) = _
  rw [show p + 1 - p = 1 by omega]
theorem dk_62 (c : ByteArray) (p : Nat) (h0 : (Reader.u1 : Decoder Nat) c p = .ok (62, p + 1)) : decode c p = .ok (.istore_n 3, 1) := by
  have e : decode c p = Except.bind (Except.bind ((Reader.u1 : Decoder Nat) c p) _) _ := rfl
  rw [e, h0]
  show (Except.ok (.istore_n 3, p + 1 - p) : Except DecodeError (Instr × Nat)) = _
  rw [show p + 1 - p = 1 by omega]
theorem dk_63 (c : ByteArray) (p : Nat) (h0 : (Reader.u1 : Decoder Nat) c p = .ok (63, p + 1)) : decode c p = .ok (.lstore_n 0, 1) := by
  have e : decode c p = Except.bind (Except.bind ((Reader.u1 : Decoder Nat) c p) _) _ := rfl
  rw [e, h0]
  show (Except.ok (.lstore_n 0, p + 1 - p) : Except DecodeError (Instr × Nat)) = _
  rw [show p + 1 - p = 1 by omega]
theorem dk_64 (c : ByteArray) (p : Nat) (h0 : (Reader.u1 : Decoder Nat) c p = .ok (64, p + 1)) : decode c p = .ok (.lstore_n 1, 1) := by
  have e : decode c p = Except.bind (Except.bind ((Reader.u1 : Decoder Nat) c p) _) _ := rfl
  rw [e, h0]
  show (Except.ok (.lstore_n 1, p + 1 - p) : Except DecodeError (Instr × Nat)) = _
  rw [show p + 1 - p = 1 by omega]
theorem dk_65 (c : ByteArray) (p : Nat) (h0 : (Reader.u1 : Decoder Nat) c p = .ok (65, p + 1)) : decode c p = .ok (.lstore_n 2, 1) := by
  have e : decode c p = Except.bind (Except.bind ((Reader.u1 : Decoder Nat) c p) _) _ := rfl
  rw [e, h0]
  show (Except.ok (.lstore_n 2, p + 1 - p) : Except DecodeError (Instr × Nat)) = _
  rw [show p + 1 - p = 1 by omega]
theorem dk_66 (c : ByteArray) (p : Nat) (h0 : (Reader.u1 : Decoder Nat) c p = .ok (66, p + 1)) : decode c p = .ok (.lstore_n 3, 1) := by
  have e : decode c p = Except.bind (Except.bind ((Reader.u1 : Decoder Nat) c p) _) _ := rfl
  rw [e, h0]
  show (Except.ok (.lstore_n 3, p + 1 - p) : Except DecodeError (Instr × Nat)) = _
  rw [show p + 1 - p = 1 by omega]
theorem dk_75 (c : ByteArray) (p : Nat) (h0 : (Reader.u1 : Decoder Nat) c p = .ok (75, p + 1)) : decode c p = .ok (.astore_n 0, 1) := by
  have e : decode c p = Except.bind (Except.bind ((Reader.u1 : Decoder Nat) c p) _) _ := rfl
  rw [e, h0]
  show (Except.ok (.astore_n 0, p + 1 - p) : Except DecodeError (Instr × Nat)) = _
  rw [show p + 1 - p = 1 by omega]
theorem dk_76 (c : ByteArray) (p : Nat) (h0 : (Reader.u1 : Decoder Nat) c p = .ok (76, p + 1)) : decode c p = .ok (.astore_n 1, 1) := by
  have e : decode c p = Except.bind (Except.bind ((Reader.u1 : Decoder Nat) c p) _) _ := rfl
  rw [e, h0]
  show (Except.ok (.astore_n 1, p + 1 - p) : Except DecodeError (Instr × Nat)) = _
  rw [show p + 1 - p = 1 by omega]
theorem dk_77 (c : ByteArray) (p : Nat) (h0 : (Reader.u1 : Decoder Nat) c p = .ok (77, p + 1)) : decode c p = .ok (.astore_n 2, 1) := by
  have e : decode c p = Except.bind (Except.bind ((Reader.u1 : Decoder Nat) c p) _) _ := rfl
  rw [e, h0]
  show (Except.ok (.astore_n 2, p + 1 - p) : Except DecodeError (Instr × Nat)) = _
  rw [show p + 1 - p = 1 by omega]
theorem dk_78 (c : ByteArray) (p : Nat) (h0 : (Reader.u1 : Decoder Nat) c p = .ok (78, p + 1)) : decode c p = .ok (.astore_n 3, 1) := by
  have e : decode c p = Except.bind (Except.bind ((Reader.u1 : Decoder Nat) c p) _) _ := rfl
  rw [e, h0]
  show (Except.ok (.astore_n 3, p + 1 - p) : Except DecodeError (Instr × Nat)) = _
  rw [show p + 1 - p = 1 by omega]
theorem dk_79 (c : ByteArray) (p : Nat) (h0 : (Reader.u1 : Decoder Nat) c p = .ok (79, p + 1)) : decode c p = .ok (.iastore, 1) := by
  have e : decode c p = Except.bind (Except.bind ((Reader.u1 : Decoder Nat) c p) _) _ := rfl
  rw [e, h0]
  show (Except.ok (.iastore, p + 1 - p) : Except DecodeError (Instr × Nat)) = _
  rw [show p + 1 - p = 1 by omega]
theorem dk_83 (c : ByteArray) (p : Nat) (h0 : (Reader.u1 : Decoder Nat) c p = .ok (83, p + 1)) : decode c p = .ok (.aastore, 1) := by
  have e : decode c p = Except.bind (Except.bind ((Reader.u1 : Decoder Nat) c p) _) _ := rfl
  rw [e, h0]
  show (Except.ok (.aastore, p + 1 - p) : Except DecodeError (Instr × Nat)) = _
  rw [show p + 1 - p = 1 by omega]
theorem dk_87 (c : ByteArray) (p : Nat) (h0 : (Reader.u1 : Decoder Nat) c p = .ok (87, p + 1)) : decode c p = .ok (.pop, 1) := by
  have e : decode c p = Except.bind (Except.bind ((Reader.u1 : Decoder Nat) c p) _) _ := rfl
  rw [e, h0]
  show (Except.ok (.pop, p + 1 - p) : Except DecodeError (Instr × Nat)) = _
  rw [show p + 1 - p = 1 by omega]
theorem dk_88 (c : ByteArray) (p : Nat) (h0 : (Reader.u1 : Decoder Nat) c p = .ok (88, p + 1)) : decode c p = .ok (.pop2, 1) := by
  have e : decode c p = Except.bind (Except.bind ((Reader.u1 : Decoder Nat) c p) _) _ := rfl
  rw [e, h0]
  show (Except.ok (.pop2, p + 1 - p) : Except DecodeError (Instr × Nat)) = _
  rw [show p + 1 - p = 1 by omega]
theorem dk_89 (c : ByteArray) (p : Nat) (h0 : (Reader.u1 : Decoder Nat) c p = .ok (89, p + 1)) : decode c p = .ok (.dup, 1) := by
  have e : decode c p = Except.bind (Except.bind ((Reader.u1 : Decoder Nat) c p) _) _ := rfl
  rw [e, h0]
  show (Except.ok (.dup, p + 1 - p) : Except DecodeError (Instr × Nat)) = _
  rw [show p + 1 - p = 1 by omega]
theorem dk_92 (c : ByteArray) (p : Nat) (h0 : (Reader.u1 : Decoder Nat) c p = .ok (92, p + 1)) : decode c p = .ok (.dup2, 1) := by
  have e : decode c p = Except.bind (Except.bind ((Reader.u1 : Decoder Nat) c p) _) _ := rfl
  rw [e, h0]
  show (Except.ok (.dup2, p + 1 - p) : Except DecodeError (Instr × Nat)) = _
  rw [show p + 1 - p = 1 by omega]
theorem dk_96 (c : ByteArray) (p : Nat) (h0 : (Reader.u1 : Decoder Nat) c p = .ok (96, p + 1)) : decode c p = .ok (.iadd, 1) := by
  have e : decode c p = Except.bind (Except.bind ((Reader.u1 : Decoder Nat) c p) _) _ := rfl
  rw [e, h0]
  show (Except.ok (.iadd, p + 1 - p) : Except DecodeError (Instr × Nat)) = _
  rw [show p + 1 - p = 1 by omega]
theorem dk_97 (c : ByteArray) (p : Nat) (h0 : (Reader.u1 : Decoder Nat) c p = .ok (97, p + 1)) : decode c p = .ok (.ladd, 1) := by
  have e : decode c p = Except.bind (Except.bind ((Reader.u1 : Decoder Nat) c p) _) _ := rfl
  rw [e, h0]
  show (Except.ok (.ladd, p + 1 - p) : Except DecodeError (Instr × Nat)) = _
  rw [show p + 1 - p = 1 by omega]
theorem dk_100 (c : ByteArray) (p : Nat) (h0 : (Reader.u1 : Decoder Nat) c p = .ok (100, p + 1)) : decode c p = .ok (.isub, 1) := by
  have e : decode c p = Except.bind (Except.bind ((Reader.u1 : Decoder Nat) c p) _) _ := rfl
  rw [e, h0]
  show (Except.ok (.isub, p + 1 - p) : Except DecodeError (Instr × Nat)) = _
  rw [show p + 1 - p = 1 by omega]
theorem dk_104 (c : ByteArray) (p : Nat) (h0 : (Reader.u1 : Decoder Nat) c p = .ok (104, p + 1)) : decode c p = .ok (.imul, 1) := by
  have e : decode c p = Except.bind (Except.bind ((Reader.u1 : Decoder Nat) c p) _) _ := rfl
  rw [e, h0]
  show (Except.ok (.imul, p + 1 - p) : Except DecodeError (Instr × Nat)) = _
  rw [show p + 1 - p = 1 by omega]
theorem dk_105 (c : ByteArray) (p : Nat) (h0 : (Reader.u1 : Decoder Nat) c p = .ok (105, p + 1)) : decode c p = .ok (.lmul, 1) := by
  have e : decode c p = Except.bind (Except.bind ((Reader.u1 : Decoder Nat) c p) _) _ := rfl
  rw [e, h0]
  show (Except.ok (.lmul, p + 1 - p) : Except DecodeError (Instr × Nat)) = _
  rw [show p + 1 - p = 1 by omega]
theorem dk_108 (c : ByteArray) (p : Nat) (h0 : (Reader.u1 : Decoder Nat) c p = .ok (108, p + 1)) : decode c p = .ok (.idiv, 1) := by
  have e : decode c p = Except.bind (Except.bind ((Reader.u1 : Decoder Nat) c p) _) _ := rfl
  rw [e, h0]
  show (Except.ok (.idiv, p + 1 - p) : Except DecodeError (Instr × Nat)) = _
  rw [show p + 1 - p = 1 by omega]
theorem dk_109 (c : ByteArray) (p : Nat) (h0 : (Reader.u1 : Decoder Nat) c p = .ok (109, p + 1)) : decode c p = .ok (.ldiv, 1) := by
  have e : decode c p = Except.bind (Except.bind ((Reader.u1 : Decoder Nat) c p) _) _ := rfl
  rw [e, h0]
  show (Except.ok (.ldiv, p + 1 - p) : Except DecodeError (Instr × Nat)) = _
  rw [show p + 1 - p = 1 by omega]
theorem dk_112 (c : ByteArray) (p : Nat) (h0 : (Reader.u1 : Decoder Nat) c p = .ok (112, p + 1)) : decode c p = .ok (.irem, 1) := by
  have e : decode c p = Except.bind (Except.bind ((Reader.u1 : Decoder Nat) c p) _) _ := rfl
  rw [e, h0]
  show (Except.ok (.irem, p + 1 - p) : Except DecodeError (Instr × Nat)) = _
  rw [show p + 1 - p = 1 by omega]
theorem dk_113 (c : ByteArray) (p : Nat) (h0 : (Reader.u1 : Decoder Nat) c p = .ok (113, p + 1)) : decode c p = .ok (.lrem, 1) := by
  have e : decode c p = Except.bind (Except.bind ((Reader.u1 : Decoder Nat) c p) _) _ := rfl
  rw [e, h0]
  show (Except.ok (.lrem, p + 1 - p) : Except DecodeError (Instr × Nat)) = _
  rw [show p + 1 - p = 1 by omega]
theorem dk_116 (c : ByteArray) (p : Nat) (h0 : (Reader.u1 : Decoder Nat) c p = .ok (116, p + 1)) : decode c p = .ok (.ineg, 1) := by
  have e : decode c p = Except.bind (Except.bind ((Reader.u1 : Decoder Nat) c p) _) _ := rfl
  rw [e, h0]
  show (Except.ok (.ineg, p + 1 - p) : Except DecodeError (Instr × Nat)) = _
  rw [show p + 1 - p = 1 by omega]
theorem dk_117 (c : ByteArray) (p : Nat) (h0 : (Reader.u1 : Decoder Nat) c p = .ok (117, p + 1)) : decode c p = .ok (.lneg, 1) := by
  have e : decode c p = Except.bind (Except.bind ((Reader.u1 : Decoder Nat) c p) _) _ := rfl
  rw [e, h0]
  show (Except.ok (.lneg, p + 1 - p) : Except DecodeError (Instr × Nat)) = _
  rw [show p + 1 - p = 1 by omega]
theorem dk_120 (c : ByteArray) (p : Nat) (h0 : (Reader.u1 : Decoder Nat) c p = .ok (120, p + 1)) : decode c p = .ok (.ishl, 1) := by
  have e : decode c p = Except.bind (Except.bind ((Reader.u1 : Decoder Nat) c p) _) _ := rfl
  rw [e, h0]
  show (Except.ok (.ishl, p + 1 - p) : Except DecodeError (Instr × Nat)) = _
  rw [show p + 1 - p = 1 by omega]
theorem dk_122 (c : ByteArray) (p : Nat) (h0 : (Reader.u1 : Decoder Nat) c p = .ok (122, p + 1)) : decode c p = .ok (.ishr, 1) := by
  have e : decode c p = Except.bind (Except.bind ((Reader.u1 : Decoder Nat) c p) _) _ := rfl
  rw [e, h0]
  show (Except.ok (.ishr, p + 1 - p) : Except DecodeError (Instr × Nat)) = _
  rw [show p + 1 - p = 1 by omega]
theorem dk_124 (c : ByteArray) (p : Nat) (h0 : (Reader.u1 : Decoder Nat) c p = .ok (124, p + 1)) : decode c p = .ok (.iushr, 1) := by
  have e : decode c p = Except.bind (Except.bind ((Reader.u1 : Decoder Nat) c p) _) _ := rfl
  rw [e, h0]
  show (Except.ok (.iushr, p + 1 - p) : Except DecodeError (Instr × Nat)) = _
  rw [show p + 1 - p = 1 by omega]
theorem dk_126 (c : ByteArray) (p : Nat) (h0 : (Reader.u1 : Decoder Nat) c p = .ok (126, p + 1)) : decode c p = .ok (.iand, 1) := by
  have e : decode c p = Except.bind (Except.bind ((Reader.u1 : Decoder Nat) c p) _) _ := rfl
  rw [e, h0]
  show (Except.ok (.iand, p + 1 - p) : Except DecodeError (Instr × Nat)) = _
  rw [show p + 1 - p = 1 by omega]
theorem dk_128 (c : ByteArray) (p : Nat) (h0 : (Reader.u1 : Decoder Nat) c p = .ok (128, p + 1)) : decode c p = .ok (.ior, 1) := by
  have e : decode c p = Except.bind (Except.bind ((Reader.u1 : Decoder Nat) c p) _) _ := rfl
  rw [e, h0]
  show (Except.ok (.ior, p + 1 - p) : Except DecodeError (Instr × Nat)) = _
  rw [show p + 1 - p = 1 by omega]
theorem dk_130 (c : ByteArray) (p : Nat) (h0 : (Reader.u1 : Decoder Nat) c p = .ok (130, p + 1)) : decode c p = .ok (.ixor, 1) := by
  have e : decode c p = Except.bind (Except.bind ((Reader.u1 : Decoder Nat) c p) _) _ := rfl
  rw [e, h0]
  show (Except.ok (.ixor, p + 1 - p) : Except DecodeError (Instr × Nat)) = _
  rw [show p + 1 - p = 1 by omega]
theorem dk_132 (c : ByteArray) (p : Nat) (h0 : (Reader.u1 : Decoder Nat) c p = .ok (132, p + 1)) (b1 : Nat) (h1 : (Reader.u1 : Decoder Nat) c (p + 1) = .ok (b1, p + 1 + 1)) (b2 : Nat) (h2 : (Reader.u1 : Decoder Nat) c (p + 1 + 1) = .ok (b2, p + 1 + 1 + 1)) : decode c p = .ok (.iinc b1 (Reader.signed 8 b2), 3) := by
  have e : decode c p = Except.bind (Except.bind ((Reader.u1 : Decoder Nat) c p) _) _ := rfl
  rw [e, h0]
  show Except.bind (Except.bind ((Reader.u1 : Decoder Nat) c (p + 1)) _) _ = _
  rw [h1]
  show Except.bind (Except.bind (Except.bind ((Reader.u1 : Decoder Nat) c (p + 1 + 1)) _) _) _ = _
  rw [h2]
  show (Except.ok (.iinc b1 (Reader.signed 8 b2), p + 1 + 1 + 1 - p) : Except DecodeError (Instr × Nat)) = _
  rw [show p + 1 + 1 + 1 - p = 3 by omega]
theorem dk_133 (c : ByteArray) (p : Nat) (h0 : (Reader.u1 : Decoder Nat) c p = .ok (133, p + 1)) : decode c p = .ok (.i2l, 1) := by
  have e : decode c p = Except.bind (Except.bind ((Reader.u1 : Decoder Nat) c p) _) _ := rfl
  rw [e, h0]
  show (Except.ok (.i2l, p + 1 - p) : Except DecodeError (Instr × Nat)) = _
  rw [show p + 1 - p = 1 by omega]
theorem dk_136 (c : ByteArray) (p : Nat) (h0 : (Reader.u1 : Decoder Nat) c p = .ok (136, p + 1)) : decode c p = .ok (.l2i, 1) := by
  have e : decode c p = Except.bind (Except.bind ((Reader.u1 : Decoder Nat) c p) _) _ := rfl
  rw [e, h0]
  show (Except.ok (.l2i, p + 1 - p) : Except DecodeError (Instr × Nat)) = _
  rw [show p + 1 - p = 1 by omega]
theorem dk_145 (c : ByteArray) (p : Nat) (h0 : (Reader.u1 : Decoder Nat) c p = .ok (145, p + 1)) : decode c p = .ok (.i2b, 1) := by
  have e : decode c p = Except.bind (Except.bind ((Reader.u1 : Decoder Nat) c p) _) _ := rfl
  rw [e, h0]
  show (Except.ok (.i2b, p + 1 - p) : Except DecodeError (Instr × Nat)) = _
  rw [show p + 1 - p = 1 by omega]
theorem dk_148 (c : ByteArray) (p : Nat) (h0 : (Reader.u1 : Decoder Nat) c p = .ok (148, p + 1)) : decode c p = .ok (.lcmp, 1) := by
  have e : decode c p = Except.bind (Except.bind ((Reader.u1 : Decoder Nat) c p) _) _ := rfl
  rw [e, h0]
  show (Except.ok (.lcmp, p + 1 - p) : Except DecodeError (Instr × Nat)) = _
  rw [show p + 1 - p = 1 by omega]
theorem dk_153 (c : ByteArray) (p : Nat) (h0 : (Reader.u1 : Decoder Nat) c p = .ok (153, p + 1)) (b1 : Nat) (h1 : (Reader.u1 : Decoder Nat) c (p + 1) = .ok (b1, p + 1 + 1)) (b2 : Nat) (h2 : (Reader.u1 : Decoder Nat) c (p + 1 + 1) = .ok (b2, p + 1 + 1 + 1)) : decode c p = .ok (.ifCond .eq (Reader.signed 16 (b1 * 256 + b2)), 3) := by
  have e : decode c p = Except.bind (Except.bind ((Reader.u1 : Decoder Nat) c p) _) _ := rfl
  rw [e, h0]
  show Except.bind (Except.bind (Except.bind (Except.bind ((Reader.u1 : Decoder Nat) c (p + 1)) _) _) _) _ = _
  rw [h1]
  show Except.bind (Except.bind (Except.bind (Except.bind ((Reader.u1 : Decoder Nat) c (p + 1 + 1)) _) _) _) _ = _
  rw [h2]
  show (Except.ok (.ifCond .eq (Reader.signed 16 (b1 * 256 + b2)), p + 1 + 1 + 1 - p) : Except DecodeError (Instr × Nat)) = _
  rw [show p + 1 + 1 + 1 - p = 3 by omega]
theorem dk_154 (c : ByteArray) (p : Nat) (h0 : (Reader.u1 : Decoder Nat) c p = .ok (154, p + 1)) (b1 : Nat) (h1 : (Reader.u1 : Decoder Nat) c (p + 1) = .ok (b1, p + 1 + 1)) (b2 : Nat) (h2 : (Reader.u1 : Decoder Nat) c (p + 1 + 1) = .ok (b2, p + 1 + 1 + 1)) : decode c p = .ok (.ifCond .ne (Reader.signed 16 (b1 * 256 + b2)), 3) := by
  have e : decode c p = Except.bind (Except.bind ((Reader.u1 : Decoder Nat) c p) _) _ := rfl
  rw [e, h0]
  show Except.bind (Except.bind (Except.bind (Except.bind ((Reader.u1 : Decoder Nat) c (p + 1)) _) _) _) _ = _
  rw [h1]
  show Except.bind (Except.bind (Except.bind (Except.bind ((Reader.u1 : Decoder Nat) c (p + 1 + 1)) _) _) _) _ = _
  rw [h2]
  show (Except.ok (.ifCond .ne (Reader.signed 16 (b1 * 256 + b2)), p + 1 + 1 + 1 - p) : Except DecodeError (Instr × Nat)) = _
  rw [show p + 1 + 1 + 1 - p = 3 by omega]
theorem dk_155 (c : ByteArray) (p : Nat) (h0 : (Reader.u1 : Decoder Nat) c p = .ok (155, p + 1)) (b1 : Nat) (h1 : (Reader.u1 : Decoder Nat) c (p + 1) = .ok (b1, p + 1 + 1)) (b2 : Nat) (h2 : (Reader.u1 : Decoder Nat) c (p + 1 + 1) = .ok (b2, p + 1 + 1 + 1)) : decode c p = .ok (.ifCond .lt (Reader.signed 16 (b1 * 256 + b2)), 3) := by
  have e : decode c p = Except.bind (Except.bind ((Reader.u1 : Decoder Nat) c p) _) _ := rfl
  rw [e, h0]
  show Except.bind (Except.bind (Except.bind (Except.bind ((Reader.u1 : Decoder Nat) c (p + 1)) _) _) _) _ = _
  rw [h1]
  show Except.bind (Except.bind (Except.bind (Except.bind ((Reader.u1 : Decoder Nat) c (p + 1 + 1)) _) _) _) _ = _
  rw [h2]
  show (Except.ok (.ifCond .lt (Reader.signed 16 (b1 * 256 + b2)), p + 1 + 1 + 1 - p) : Except DecodeError (Instr × Nat)) = _
  rw [show p + 1 + 1 + 1 - p = 3 by omega]
theorem dk_156 (c : ByteArray) (p : Nat) (h0 : (Reader.u1 : Decoder Nat) c p = .ok (156, p + 1)) (b1 : Nat) (h1 : (Reader.u1 : Decoder Nat) c (p + 1) = .ok (b1, p + 1 + 1)) (b2 : Nat) (h2 : (Reader.u1 : Decoder Nat) c (p + 1 + 1) = .ok (b2, p + 1 + 1 + 1)) : decode c p = .ok (.ifCond .ge (Reader.signed 16 (b1 * 256 + b2)), 3) := by
  have e : decode c p = Except.bind (Except.bind ((Reader.u1 : Decoder Nat) c p) _) _ := rfl
  rw [e, h0]
  show Except.bind (Except.bind (Except.bind (Except.bind ((Reader.u1 : Decoder Nat) c (p + 1)) _) _) _) _ = _
  rw [h1]
  show Except.bind (Except.bind (Except.bind (Except.bind ((Reader.u1 : Decoder Nat) c (p + 1 + 1)) _) _) _) _ = _
  rw [h2]
  show (Except.ok (.ifCond .ge (Reader.signed 16 (b1 * 256 + b2)), p + 1 + 1 + 1 - p) : Except DecodeError (Instr × Nat)) = _
  rw [show p + 1 + 1 + 1 - p = 3 by omega]
theorem dk_157 (c : ByteArray) (p : Nat) (h0 : (Reader.u1 : Decoder Nat) c p = .ok (157, p + 1)) (b1 : Nat) (h1 : (Reader.u1 : Decoder Nat) c (p + 1) = .ok (b1, p + 1 + 1)) (b2 : Nat) (h2 : (Reader.u1 : Decoder Nat) c (p + 1 + 1) = .ok (b2, p + 1 + 1 + 1)) : decode c p = .ok (.ifCond .gt (Reader.signed 16 (b1 * 256 + b2)), 3) := by
  have e : decode c p = Except.bind (Except.bind ((Reader.u1 : Decoder Nat) c p) _) _ := rfl
  rw [e, h0]
  show Except.bind (Except.bind (Except.bind (Except.bind ((Reader.u1 : Decoder Nat) c (p + 1)) _) _) _) _ = _
  rw [h1]
  show Except.bind (Except.bind (Except.bind (Except.bind ((Reader.u1 : Decoder Nat) c (p + 1 + 1)) _) _) _) _ = _
  rw [h2]
  show (Except.ok (.ifCond .gt (Reader.signed 16 (b1 * 256 + b2)), p + 1 + 1 + 1 - p) : Except DecodeError (Instr × Nat)) = _
  rw [show p + 1 + 1 + 1 - p = 3 by omega]
theorem dk_158 (c : ByteArray) (p : Nat) (h0 : (Reader.u1 : Decoder Nat) c p = .ok (158, p + 1)) (b1 : Nat) (h1 : (Reader.u1 : Decoder Nat) c (p + 1) = .ok (b1, p + 1 + 1)) (b2 : Nat) (h2 : (Reader.u1 : Decoder Nat) c (p + 1 + 1) = .ok (b2, p + 1 + 1 + 1)) : decode c p = .ok (.ifCond .le (Reader.signed 16 (b1 * 256 + b2)), 3) := by
  have e : decode c p = Except.bind (Except.bind ((Reader.u1 : Decoder Nat) c p) _) _ := rfl
  rw [e, h0]
  show Except.bind (Except.bind (Except.bind (Except.bind ((Reader.u1 : Decoder Nat) c (p + 1)) _) _) _) _ = _
  rw [h1]
  show Except.bind (Except.bind (Except.bind (Except.bind ((Reader.u1 : Decoder Nat) c (p + 1 + 1)) _) _) _) _ = _
  rw [h2]
  show (Except.ok (.ifCond .le (Reader.signed 16 (b1 * 256 + b2)), p + 1 + 1 + 1 - p) : Except DecodeError (Instr × Nat)) = _
  rw [show p + 1 + 1 + 1 - p = 3 by omega]
theorem dk_159 (c : ByteArray) (p : Nat) (h0 : (Reader.u1 : Decoder Nat) c p = .ok (159, p + 1)) (b1 : Nat) (h1 : (Reader.u1 : Decoder Nat) c (p + 1) = .ok (b1, p + 1 + 1)) (b2 : Nat) (h2 : (Reader.u1 : Decoder Nat) c (p + 1 + 1) = .ok (b2, p + 1 + 1 + 1)) : decode c p = .ok (.if_icmp .eq (Reader.signed 16 (b1 * 256 + b2)), 3) := by
  have e : decode c p = Except.bind (Except.bind ((Reader.u1 : Decoder Nat) c p) _) _ := rfl
  rw [e, h0]
  show Except.bind (Except.bind (Except.bind (Except.bind ((Reader.u1 : Decoder Nat) c (p + 1)) _) _) _) _ = _
  rw [h1]
  show Except.bind (Except.bind (Except.bind (Except.bind ((Reader.u1 : Decoder Nat) c (p + 1 + 1)) _) _) _) _ = _
  rw [h2]
  show (Except.ok (.if_icmp .eq (Reader.signed 16 (b1 * 256 + b2)), p + 1 + 1 + 1 - p) : Except DecodeError (Instr × Nat)) = _
  rw [show p + 1 + 1 + 1 - p = 3 by omega]
theorem dk_160 (c : ByteArray) (p : Nat) (h0 : (Reader.u1 : Decoder Nat) c p = .ok (160, p + 1)) (b1 : Nat) (h1 : (Reader.u1 : Decoder Nat) c (p + 1) = .ok (b1, p + 1 + 1)) (b2 : Nat) (h2 : (Reader.u1 : Decoder Nat) c (p + 1 + 1) = .ok (b2, p + 1 + 1 + 1)) : decode c p = .ok (.if_icmp .ne (Reader.signed 16 (b1 * 256 + b2)), 3) := by
  have e : decode c p = Except.bind (Except.bind ((Reader.u1 : Decoder Nat) c p) _) _ := rfl
  rw [e, h0]
  show Except.bind (Except.bind (Except.bind (Except.bind ((Reader.u1 : Decoder Nat) c (p + 1)) _) _) _) _ = _
  rw [h1]
  show Except.bind (Except.bind (Except.bind (Except.bind ((Reader.u1 : Decoder Nat) c (p + 1 + 1)) _) _) _) _ = _
  rw [h2]
  show (Except.ok (.if_icmp .ne (Reader.signed 16 (b1 * 256 + b2)), p + 1 + 1 + 1 - p) : Except DecodeError (Instr × Nat)) = _
  rw [show p + 1 + 1 + 1 - p = 3 by omega]
theorem dk_161 (c : ByteArray) (p : Nat) (h0 : (Reader.u1 : Decoder Nat) c p = .ok (161, p + 1)) (b1 : Nat) (h1 : (Reader.u1 : Decoder Nat) c (p + 1) = .ok (b1, p + 1 + 1)) (b2 : Nat) (h2 : (Reader.u1 : Decoder Nat) c (p + 1 + 1) = .ok (b2, p + 1 + 1 + 1)) : decode c p = .ok (.if_icmp .lt (Reader.signed 16 (b1 * 256 + b2)), 3) := by
  have e : decode c p = Except.bind (Except.bind ((Reader.u1 : Decoder Nat) c p) _) _ := rfl
  rw [e, h0]
  show Except.bind (Except.bind (Except.bind (Except.bind ((Reader.u1 : Decoder Nat) c (p + 1)) _) _) _) _ = _
  rw [h1]
  show Except.bind (Except.bind (Except.bind (Except.bind ((Reader.u1 : Decoder Nat) c (p + 1 + 1)) _) _) _) _ = _
  rw [h2]
  show (Except.ok (.if_icmp .lt (Reader.signed 16 (b1 * 256 + b2)), p + 1 + 1 + 1 - p) : Except DecodeError (Instr × Nat)) = _
  rw [show p + 1 + 1 + 1 - p = 3 by omega]
theorem dk_162 (c : ByteArray) (p : Nat) (h0 : (Reader.u1 : Decoder Nat) c p = .ok (162, p + 1)) (b1 : Nat) (h1 : (Reader.u1 : Decoder Nat) c (p + 1) = .ok (b1, p + 1 + 1)) (b2 : Nat) (h2 : (Reader.u1 : Decoder Nat) c (p + 1 + 1) = .ok (b2, p + 1 + 1 + 1)) : decode c p = .ok (.if_icmp .ge (Reader.signed 16 (b1 * 256 + b2)), 3) := by
  have e : decode c p = Except.bind (Except.bind ((Reader.u1 : Decoder Nat) c p) _) _ := rfl
  rw [e, h0]
  show Except.bind (Except.bind (Except.bind (Except.bind ((Reader.u1 : Decoder Nat) c (p + 1)) _) _) _) _ = _
  rw [h1]
  show Except.bind (Except.bind (Except.bind (Except.bind ((Reader.u1 : Decoder Nat) c (p + 1 + 1)) _) _) _) _ = _
  rw [h2]
  show (Except.ok (.if_icmp .ge (Reader.signed 16 (b1 * 256 + b2)), p + 1 + 1 + 1 - p) : Except DecodeError (Instr × Nat)) = _
  rw [show p + 1 + 1 + 1 - p = 3 by omega]
theorem dk_163 (c : ByteArray) (p : Nat) (h0 : (Reader.u1 : Decoder Nat) c p = .ok (163, p + 1)) (b1 : Nat) (h1 : (Reader.u1 : Decoder Nat) c (p + 1) = .ok (b1, p + 1 + 1)) (b2 : Nat) (h2 : (Reader.u1 : Decoder Nat) c (p + 1 + 1) = .ok (b2, p + 1 + 1 + 1)) : decode c p = .ok (.if_icmp .gt (Reader.signed 16 (b1 * 256 + b2)), 3) := by
  have e : decode c p = Except.bind (Except.bind ((Reader.u1 : Decoder Nat) c p) _) _ := rfl
  rw [e, h0]
  show Except.bind (Except.bind (Except.bind (Except.bind ((Reader.u1 : Decoder Nat) c (p + 1)) _) _) _) _ = _
  rw [h1]
  show Except.bind (Except.bind (Except.bind (Except.bind ((Reader.u1 : Decoder Nat) c (p + 1 + 1)) _) _) _) _ = _
  rw [h2]
  show (Except.ok (.if_icmp .gt (Reader.signed 16 (b1 * 256 + b2)), p + 1 + 1 + 1 - p) : Except DecodeError (Instr × Nat)) = _
  rw [show p + 1 + 1 + 1 - p = 3 by omega]
theorem dk_164 (c : ByteArray) (p : Nat) (h0 : (Reader.u1 : Decoder Nat) c p = .ok (164, p + 1)) (b1 : Nat) (h1 : (Reader.u1 : Decoder Nat) c (p + 1) = .ok (b1, p + 1 + 1)) (b2 : Nat) (h2 : (Reader.u1 : Decoder Nat) c (p + 1 + 1) = .ok (b2, p + 1 + 1 + 1)) : decode c p = .ok (.if_icmp .le (Reader.signed 16 (b1 * 256 + b2)), 3) := by
  have e : decode c p = Except.bind (Except.bind ((Reader.u1 : Decoder Nat) c p) _) _ := rfl
  rw [e, h0]
  show Except.bind (Except.bind (Except.bind (Except.bind ((Reader.u1 : Decoder Nat) c (p + 1)) _) _) _) _ = _
  rw [h1]
  show Except.bind (Except.bind (Except.bind (Except.bind ((Reader.u1 : Decoder Nat) c (p + 1 + 1)) _) _) _) _ = _
  rw [h2]
  show (Except.ok (.if_icmp .le (Reader.signed 16 (b1 * 256 + b2)), p + 1 + 1 + 1 - p) : Except DecodeError (Instr × Nat)) = _
  rw [show p + 1 + 1 + 1 - p = 3 by omega]
theorem dk_167 (c : ByteArray) (p : Nat) (h0 : (Reader.u1 : Decoder Nat) c p = .ok (167, p + 1)) (b1 : Nat) (h1 : (Reader.u1 : Decoder Nat) c (p + 1) = .ok (b1, p + 1 + 1)) (b2 : Nat) (h2 : (Reader.u1 : Decoder Nat) c (p + 1 + 1) = .ok (b2, p + 1 + 1 + 1)) : decode c p = .ok (.goto (Reader.signed 16 (b1 * 256 + b2)), 3) := by
  have e : decode c p = Except.bind (Except.bind ((Reader.u1 : Decoder Nat) c p) _) _ := rfl
  rw [e, h0]
  show Except.bind (Except.bind (Except.bind (Except.bind ((Reader.u1 : Decoder Nat) c (p + 1)) _) _) _) _ = _
  rw [h1]
  show Except.bind (Except.bind (Except.bind (Except.bind ((Reader.u1 : Decoder Nat) c (p + 1 + 1)) _) _) _) _ = _
  rw [h2]
  show (Except.ok (.goto (Reader.signed 16 (b1 * 256 + b2)), p + 1 + 1 + 1 - p) : Except DecodeError (Instr × Nat)) = _
  rw [show p + 1 + 1 + 1 - p = 3 by omega]
theorem dk_172 (c : ByteArray) (p : Nat) (h0 : (Reader.u1 : Decoder Nat) c p = .ok (172, p + 1)) : decode c p = .ok (.ireturn, 1) := by
  have e : decode c p = Except.bind (Except.bind ((Reader.u1 : Decoder Nat) c p) _) _ := rfl
  rw [e, h0]
  show (Except.ok (.ireturn, p + 1 - p) : Except DecodeError (Instr × Nat)) = _
  rw [show p + 1 - p = 1 by omega]
theorem dk_173 (c : ByteArray) (p : Nat) (h0 : (Reader.u1 : Decoder Nat) c p = .ok (173, p + 1)) : decode c p = .ok (.lreturn, 1) := by
  have e : decode c p = Except.bind (Except.bind ((Reader.u1 : Decoder Nat) c p) _) _ := rfl
  rw [e, h0]
  show (Except.ok (.lreturn, p + 1 - p) : Except DecodeError (Instr × Nat)) = _
  rw [show p + 1 - p = 1 by omega]
theorem dk_177 (c : ByteArray) (p : Nat) (h0 : (Reader.u1 : Decoder Nat) c p = .ok (177, p + 1)) : decode c p = .ok (.return_, 1) := by
  have e : decode c p = Except.bind (Except.bind ((Reader.u1 : Decoder Nat) c p) _) _ := rfl
  rw [e, h0]
  show (Except.ok (.return_, p + 1 - p) : Except DecodeError (Instr × Nat)) = _
  rw [show p + 1 - p = 1 by omega]
theorem dk_178 (c : ByteArray) (p : Nat) (h0 : (Reader.u1 : Decoder Nat) c p = .ok (178, p + 1)) (b1 : Nat) (h1 : (Reader.u1 : Decoder Nat) c (p + 1) = .ok (b1, p + 1 + 1)) (b2 : Nat) (h2 : (Reader.u1 : Decoder Nat) c (p + 1 + 1) = .ok (b2, p + 1 + 1 + 1)) : decode c p = .ok (.getstatic (b1 * 256 + b2), 3) := by
  have e : decode c p = Except.bind (Except.bind ((Reader.u1 : Decoder Nat) c p) _) _ := rfl
  rw [e, h0]
  show Except.bind (Except.bind (Except.bind ((Reader.u1 : Decoder Nat) c (p + 1)) _) _) _ = _
  rw [h1]
  show Except.bind (Except.bind (Except.bind ((Reader.u1 : Decoder Nat) c (p + 1 + 1)) _) _) _ = _
  rw [h2]
  show (Except.ok (.getstatic (b1 * 256 + b2), p + 1 + 1 + 1 - p) : Except DecodeError (Instr × Nat)) = _
  rw [show p + 1 + 1 + 1 - p = 3 by omega]
theorem dk_180 (c : ByteArray) (p : Nat) (h0 : (Reader.u1 : Decoder Nat) c p = .ok (180, p + 1)) (b1 : Nat) (h1 : (Reader.u1 : Decoder Nat) c (p + 1) = .ok (b1, p + 1 + 1)) (b2 : Nat) (h2 : (Reader.u1 : Decoder Nat) c (p + 1 + 1) = .ok (b2, p + 1 + 1 + 1)) : decode c p = .ok (.getfield (b1 * 256 + b2), 3) := by
  have e : decode c p = Except.bind (Except.bind ((Reader.u1 : Decoder Nat) c p) _) _ := rfl
  rw [e, h0]
  show Except.bind (Except.bind (Except.bind ((Reader.u1 : Decoder Nat) c (p + 1)) _) _) _ = _
  rw [h1]
  show Except.bind (Except.bind (Except.bind ((Reader.u1 : Decoder Nat) c (p + 1 + 1)) _) _) _ = _
  rw [h2]
  show (Except.ok (.getfield (b1 * 256 + b2), p + 1 + 1 + 1 - p) : Except DecodeError (Instr × Nat)) = _
  rw [show p + 1 + 1 + 1 - p = 3 by omega]
theorem dk_181 (c : ByteArray) (p : Nat) (h0 : (Reader.u1 : Decoder Nat) c p = .ok (181, p + 1)) (b1 : Nat) (h1 : (Reader.u1 : Decoder Nat) c (p + 1) = .ok (b1, p + 1 + 1)) (b2 : Nat) (h2 : (Reader.u1 : Decoder Nat) c (p + 1 + 1) = .ok (b2, p + 1 + 1 + 1)) : decode c p = .ok (.putfield (b1 * 256 + b2), 3) := by
  have e : decode c p = Except.bind (Except.bind ((Reader.u1 : Decoder Nat) c p) _) _ := rfl
  rw [e, h0]
  show Except.bind (Except.bind (Except.bind ((Reader.u1 : Decoder Nat) c (p + 1)) _) _) _ = _
  rw [h1]
  show Except.bind (Except.bind (Except.bind ((Reader.u1 : Decoder Nat) c (p + 1 + 1)) _) _) _ = _
  rw [h2]
  show (Except.ok (.putfield (b1 * 256 + b2), p + 1 + 1 + 1 - p) : Except DecodeError (Instr × Nat)) = _
  rw [show p + 1 + 1 + 1 - p = 3 by omega]
theorem dk_182 (c : ByteArray) (p : Nat) (h0 : (Reader.u1 : Decoder Nat) c p = .ok (182, p + 1)) (b1 : Nat) (h1 : (Reader.u1 : Decoder Nat) c (p + 1) = .ok (b1, p + 1 + 1)) (b2 : Nat) (h2 : (Reader.u1 : Decoder Nat) c (p + 1 + 1) = .ok (b2, p + 1 + 1 + 1)) : decode c p = .ok (.invokevirtual (b1 * 256 + b2), 3) := by
  have e : decode c p = Except.bind (Except.bind ((Reader.u1 : Decoder Nat) c p) _) _ := rfl
  rw [e, h0]
  show Except.bind (Except.bind (Except.bind ((Reader.u1 : Decoder Nat) c (p + 1)) _) _) _ = _
  rw [h1]
  show Except.bind (Except.bind (Except.bind ((Reader.u1 : Decoder Nat) c (p + 1 + 1)) _) _) _ = _
  rw [h2]
  show (Except.ok (.invokevirtual (b1 * 256 + b2), p + 1 + 1 + 1 - p) : Except DecodeError (Instr × Nat)) = _
  rw [show p + 1 + 1 + 1 - p = 3 by omega]
theorem dk_183 (c : ByteArray) (p : Nat) (h0 : (Reader.u1 : Decoder Nat) c p = .ok (183, p + 1)) (b1 : Nat) (h1 : (Reader.u1 : Decoder Nat) c (p + 1) = .ok (b1, p + 1 + 1)) (b2 : Nat) (h2 : (Reader.u1 : Decoder Nat) c (p + 1 + 1) = .ok (b2, p + 1 + 1 + 1)) : decode c p = .ok (.invokespecial (b1 * 256 + b2), 3) := by
  have e : decode c p = Except.bind (Except.bind ((Reader.u1 : Decoder Nat) c p) _) _ := rfl
  rw [e, h0]
  show Except.bind (Except.bind (Except.bind ((Reader.u1 : Decoder Nat) c (p + 1)) _) _) _ = _
  rw [h1]
  show Except.bind (Except.bind (Except.bind ((Reader.u1 : Decoder Nat) c (p + 1 + 1)) _) _) _ = _
  rw [h2]
  show (Except.ok (.invokespecial (b1 * 256 + b2), p + 1 + 1 + 1 - p) : Except DecodeError (Instr × Nat)) = _
  rw [show p + 1 + 1 + 1 - p = 3 by omega]
theorem dk_184 (c : ByteArray) (p : Nat) (h0 : (Reader.u1 : Decoder Nat) c p = .ok (184, p + 1)) (b1 : Nat) (h1 : (Reader.u1 : Decoder Nat) c (p + 1) = .ok (b1, p + 1 + 1)) (b2 : Nat) (h2 : (Reader.u1 : Decoder Nat) c (p + 1 + 1) = .ok (b2, p + 1 + 1 + 1)) : decode c p = .ok (.invokestatic (b1 * 256 + b2), 3) := by
  have e : decode c p = Except.bind (Except.bind ((Reader.u1 : Decoder Nat) c p) _) _ := rfl
  rw [e, h0]
  show Except.bind (Except.bind (Except.bind ((Reader.u1 : Decoder Nat) c (p + 1)) _) _) _ = _
  rw [h1]
  show Except.bind (Except.bind (Except.bind ((Reader.u1 : Decoder Nat) c (p + 1 + 1)) _) _) _ = _
  rw [h2]
  show (Except.ok (.invokestatic (b1 * 256 + b2), p + 1 + 1 + 1 - p) : Except DecodeError (Instr × Nat)) = _
  rw [show p + 1 + 1 + 1 - p = 3 by omega]
theorem dk_187 (c : ByteArray) (p : Nat) (h0 : (Reader.u1 : Decoder Nat) c p = .ok (187, p + 1)) (b1 : Nat) (h1 : (Reader.u1 : Decoder Nat) c (p + 1) = .ok (b1, p + 1 + 1)) (b2 : Nat) (h2 : (Reader.u1 : Decoder Nat) c (p + 1 + 1) = .ok (b2, p + 1 + 1 + 1)) : decode c p = .ok (.new (b1 * 256 + b2), 3) := by
  have e : decode c p = Except.bind (Except.bind ((Reader.u1 : Decoder Nat) c p) _) _ := rfl
  rw [e, h0]
  show Except.bind (Except.bind (Except.bind ((Reader.u1 : Decoder Nat) c (p + 1)) _) _) _ = _
  rw [h1]
  show Except.bind (Except.bind (Except.bind ((Reader.u1 : Decoder Nat) c (p + 1 + 1)) _) _) _ = _
  rw [h2]
  show (Except.ok (.new (b1 * 256 + b2), p + 1 + 1 + 1 - p) : Except DecodeError (Instr × Nat)) = _
  rw [show p + 1 + 1 + 1 - p = 3 by omega]
theorem dk_189 (c : ByteArray) (p : Nat) (h0 : (Reader.u1 : Decoder Nat) c p = .ok (189, p + 1)) (b1 : Nat) (h1 : (Reader.u1 : Decoder Nat) c (p + 1) = .ok (b1, p + 1 + 1)) (b2 : Nat) (h2 : (Reader.u1 : Decoder Nat) c (p + 1 + 1) = .ok (b2, p + 1 + 1 + 1)) : decode c p = .ok (.anewarray (b1 * 256 + b2), 3) := by
  have e : decode c p = Except.bind (Except.bind ((Reader.u1 : Decoder Nat) c p) _) _ := rfl
  rw [e, h0]
  show Except.bind (Except.bind (Except.bind ((Reader.u1 : Decoder Nat) c (p + 1)) _) _) _ = _
  rw [h1]
  show Except.bind (Except.bind (Except.bind ((Reader.u1 : Decoder Nat) c (p + 1 + 1)) _) _) _ = _
  rw [h2]
  show (Except.ok (.anewarray (b1 * 256 + b2), p + 1 + 1 + 1 - p) : Except DecodeError (Instr × Nat)) = _
  rw [show p + 1 + 1 + 1 - p = 3 by omega]
theorem dk_190 (c : ByteArray) (p : Nat) (h0 : (Reader.u1 : Decoder Nat) c p = .ok (190, p + 1)) : decode c p = .ok (.arraylength, 1) := by
  have e : decode c p = Except.bind (Except.bind ((Reader.u1 : Decoder Nat) c p) _) _ := rfl
  rw [e, h0]
  show (Except.ok (.arraylength, p + 1 - p) : Except DecodeError (Instr × Nat)) = _
  rw [show p + 1 - p = 1 by omega]
theorem kd_b {c : ByteArray} {p : Nat} {b : UInt8} {r : List UInt8} (h : c.data.toList.drop p = b :: r) : (Reader.u1 : Decoder Nat) c p = .ok (b.toNat, p + 1) ∧ c.data.toList.drop (p + 1) = r := by
  constructor
  · have e1 : (c.data.toList.drop p)[0]? = some b := by rw [h]; rfl
    rw [List.getElem?_drop, Nat.add_zero, Array.getElem?_toList] at e1
    obtain ⟨hp2, e2⟩ := Array.getElem?_eq_some_iff.mp e1
    have e3 : (Reader.u1 : Decoder Nat) c p = if h : p < c.size then Except.ok ((c[p]'h).toNat, p + 1) else Except.error (HasTruncated.truncated p) := by
      show (if h : p < c.size then _ else _ : Decoder Nat) c p = _
      by_cases q : p < c.size
      · rw [dif_pos q, dif_pos q]; rfl
      · rw [dif_neg q, dif_neg q]; rfl
    have q : p < c.size := hp2
    rw [e3, dif_pos q]
    have e4 : c[p]'q = b := e2
    rw [e4]
  · have e := congrArg (List.drop 1) h
    rw [List.drop_drop] at e
    exact e
def kd_0 (o n : Nat) : List UInt8 → Option (List UInt8)
  | b :: r => bif Nat.beq b.toNat o && Nat.beq n 1 then some r else none
  | [] => none
def kd_1 (o k n : Nat) : List UInt8 → Option (List UInt8)
  | b :: x :: r => bif Nat.beq b.toNat o && Nat.beq x.toNat k && Nat.beq n 2 then some r else none
  | _ => none
def kd_s1 (o : Nat) (k : Int) (n : Nat) : List UInt8 → Option (List UInt8)
  | b :: x :: r => bif Nat.beq b.toNat o && decide (Reader.signed 8 x.toNat = k) && Nat.beq n 2 then some r else none
  | _ => none
def kd_2 (o k n : Nat) : List UInt8 → Option (List UInt8)
  | b :: x :: y :: r => bif Nat.beq b.toNat o && Nat.beq (x.toNat * 256 + y.toNat) k && Nat.beq n 3 then some r else none
  | _ => none
def kd_s2 (o : Nat) (k : Int) (n : Nat) : List UInt8 → Option (List UInt8)
  | b :: x :: y :: r => bif Nat.beq b.toNat o && decide (Reader.signed 16 (x.toNat * 256 + y.toNat) = k) && Nat.beq n 3 then some r else none
  | _ => none
def kd_ii (k : Nat) (v : Int) (n : Nat) : List UInt8 → Option (List UInt8)
  | b :: x :: y :: r => bif Nat.beq b.toNat 132 && Nat.beq x.toNat k && decide (Reader.signed 8 y.toNat = v) && Nat.beq n 3 then some r else none
  | _ => none
def kd_ic (i : Int) (n : Nat) : List UInt8 → Option (List UInt8)
  | b :: r => bif Nat.ble 2 b.toNat && Nat.ble b.toNat 8 && decide ((b.toNat : Int) - 3 = i) && Nat.beq n 1 then some r else none
  | [] => none
def kd_cc : ClassFile.Cond → Nat
  | .eq => 0 | .ne => 1 | .lt => 2 | .ge => 3 | .gt => 4 | .le => 5
theorem kd_if {b : Bool} {r s : List UInt8} (h : (bif b then some r else none) = some s) : b = true ∧ r = s := by
  cases b with
  | false => cases h
  | true => exact ⟨rfl, Option.some.inj h⟩
theorem kd_0_ok {c : ByteArray} {p o n : Nat} {L r : List UInt8} {i : Instr} (hL : c.data.toList.drop p = L) (h : kd_0 o n L = some r)
    (f : (Reader.u1 : Decoder Nat) c p = .ok (o, p + 1) → decode c p = .ok (i, 1)) : decode c p = .ok (i, n) ∧ c.data.toList.drop (p + n) = r := by
  cases L with
  | nil => cases h
  | cons b t =>
    obtain ⟨e, e2⟩ := kd_if h
    rw [Bool.and_eq_true] at e
    obtain ⟨g1, g2⟩ := kd_b hL
    have e1 := Nat.eq_of_beq_eq_true e.1; have e3 := Nat.eq_of_beq_eq_true e.2
    subst e1; subst e3; subst e2
    exact ⟨f g1, g2⟩
theorem kd_1_ok {c : ByteArray} {p o k n : Nat} {L r : List UInt8} {i : Instr} (hL : c.data.toList.drop p = L) (h : kd_1 o k n L = some r)
    (f : (Reader.u1 : Decoder Nat) c p = .ok (o, p + 1) → (Reader.u1 : Decoder Nat) c (p + 1) = .ok (k, p + 1 + 1) → decode c p = .ok (i, 2)) : decode c p = .ok (i, n) ∧ c.data.toList.drop (p + n) = r := by
  match L, hL, h with
  | [], _, h => cases h
  | [_], _, h => cases h
  | b :: x :: t, hL, h =>
    obtain ⟨e, e2⟩ := kd_if h
    simp only [Bool.and_eq_true] at e
    obtain ⟨⟨a1, a2⟩, a3⟩ := e
    obtain ⟨g1, g2⟩ := kd_b hL
    obtain ⟨g3, g4⟩ := kd_b g2
    have e1 := Nat.eq_of_beq_eq_true a1; have e3 := Nat.eq_of_beq_eq_true a2; have e4 := Nat.eq_of_beq_eq_true a3
    subst e1; subst e3; subst e4; subst e2
    exact ⟨f g1 g3, g4⟩
theorem kd_s1_ok {c : ByteArray} {p o n : Nat} {k : Int} {L r : List UInt8} {i : Instr} (hL : c.data.toList.drop p = L) (h : kd_s1 o k n L = some r)
    (f : (Reader.u1 : Decoder Nat) c p = .ok (o, p + 1) → ∀ x, (Reader.u1 : Decoder Nat) c (p + 1) = .ok (x, p + 1 + 1) → Reader.signed 8 x = k → decode c p = .ok (i, 2)) : decode c p = .ok (i, n) ∧ c.data.toList.drop (p + n) = r := by
  match L, hL, h with
  | [], _, h => cases h
  | [_], _, h => cases h
  | b :: x :: t, hL, h =>
    obtain ⟨e, e2⟩ := kd_if h
    simp only [Bool.and_eq_true] at e
    obtain ⟨⟨a1, a2⟩, a3⟩ := e
    obtain ⟨g1, g2⟩ := kd_b hL
    obtain ⟨g3, g4⟩ := kd_b g2
    have e1 := Nat.eq_of_beq_eq_true a1; have e3 := of_decide_eq_true a2; have e4 := Nat.eq_of_beq_eq_true a3
    subst e1; subst e4; subst e2
    exact ⟨f g1 _ g3 e3, g4⟩
theorem kd_2_ok {c : ByteArray} {p o k n : Nat} {L r : List UInt8} {i : Instr} (hL : c.data.toList.drop p = L) (h : kd_2 o k n L = some r)
    (f : (Reader.u1 : Decoder Nat) c p = .ok (o, p + 1) → ∀ x, (Reader.u1 : Decoder Nat) c (p + 1) = .ok (x, p + 1 + 1) → ∀ y, (Reader.u1 : Decoder Nat) c (p + 1 + 1) = .ok (y, p + 1 + 1 + 1) → x * 256 + y = k → decode c p = .ok (i, 3)) : decode c p = .ok (i, n) ∧ c.data.toList.drop (p + n) = r := by
  match L, hL, h with
  | [], _, h => cases h
  | [_], _, h => cases h
  | [_, _], _, h => cases h
  | b :: x :: y :: t, hL, h =>
    obtain ⟨e, e2⟩ := kd_if h
    simp only [Bool.and_eq_true] at e
    obtain ⟨⟨a1, a2⟩, a3⟩ := e
    obtain ⟨g1, g2⟩ := kd_b hL
    obtain ⟨g3, g4⟩ := kd_b g2
    obtain ⟨g5, g6⟩ := kd_b g4
    have e1 := Nat.eq_of_beq_eq_true a1; have e3 := Nat.eq_of_beq_eq_true a2; have e4 := Nat.eq_of_beq_eq_true a3
    subst e1; subst e4; subst e2
    exact ⟨f g1 _ g3 _ g5 e3, g6⟩
theorem kd_s2_ok {c : ByteArray} {p o n : Nat} {k : Int} {L r : List UInt8} {i : Instr} (hL : c.data.toList.drop p = L) (h : kd_s2 o k n L = some r)
    (f : (Reader.u1 : Decoder Nat) c p = .ok (o, p + 1) → ∀ x, (Reader.u1 : Decoder Nat) c (p + 1) = .ok (x, p + 1 + 1) → ∀ y, (Reader.u1 : Decoder Nat) c (p + 1 + 1) = .ok (y, p + 1 + 1 + 1) → Reader.signed 16 (x * 256 + y) = k → decode c p = .ok (i, 3)) : decode c p = .ok (i, n) ∧ c.data.toList.drop (p + n) = r := by
  match L, hL, h with
  | [], _, h => cases h
  | [_], _, h => cases h
  | [_, _], _, h => cases h
  | b :: x :: y :: t, hL, h =>
    obtain ⟨e, e2⟩ := kd_if h
    simp only [Bool.and_eq_true] at e
    obtain ⟨⟨a1, a2⟩, a3⟩ := e
    obtain ⟨g1, g2⟩ := kd_b hL
    obtain ⟨g3, g4⟩ := kd_b g2
    obtain ⟨g5, g6⟩ := kd_b g4
    have e1 := Nat.eq_of_beq_eq_true a1; have e3 := of_decide_eq_true a2; have e4 := Nat.eq_of_beq_eq_true a3
    subst e1; subst e4; subst e2
    exact ⟨f g1 _ g3 _ g5 e3, g6⟩
theorem kd_ii_ok {c : ByteArray} {p k n : Nat} {v : Int} {L r : List UInt8} (hL : c.data.toList.drop p = L) (h : kd_ii k v n L = some r) : decode c p = .ok (.iinc k v, n) ∧ c.data.toList.drop (p + n) = r := by
  match L, hL, h with
  | [], _, h => cases h
  | [_], _, h => cases h
  | [_, _], _, h => cases h
  | b :: x :: y :: t, hL, h =>
    obtain ⟨e, e2⟩ := kd_if h
    simp only [Bool.and_eq_true] at e
    obtain ⟨⟨⟨a1, a2⟩, a5⟩, a3⟩ := e
    obtain ⟨g1, g2⟩ := kd_b hL
    obtain ⟨g3, g4⟩ := kd_b g2
    obtain ⟨g5, g6⟩ := kd_b g4
    have e1 := Nat.eq_of_beq_eq_true a1; have e3 := Nat.eq_of_beq_eq_true a2; have e4 := Nat.eq_of_beq_eq_true a3; have e5 := of_decide_eq_true a5
    rw [e1] at g1; subst e3; subst e4; subst e2; subst e5
    exact ⟨dk_132 c p g1 _ g3 _ g5, g6⟩
theorem kd_ic_ok {c : ByteArray} {p n : Nat} {i : Int} {L r : List UInt8} (hL : c.data.toList.drop p = L) (h : kd_ic i n L = some r) : decode c p = .ok (.iconst i, n) ∧ c.data.toList.drop (p + n) = r := by
  match L, hL, h with
  | [], _, h => cases h
  | b :: t, hL, h =>
    obtain ⟨e, e2⟩ := kd_if h
    simp only [Bool.and_eq_true] at e
    obtain ⟨⟨⟨a1, a2⟩, a5⟩, a3⟩ := e
    obtain ⟨g1, g2⟩ := kd_b hL
    have e1 := Nat.le_of_ble_eq_true a1; have e3 := Nat.le_of_ble_eq_true a2; have e4 := Nat.eq_of_beq_eq_true a3; have e5 := of_decide_eq_true a5
    subst e4; subst e2; subst e5
    refine ⟨?_, g2⟩
    generalize b.toNat = v at *
    have hv : v = 2 ∨ v = 3 ∨ v = 4 ∨ v = 5 ∨ v = 6 ∨ v = 7 ∨ v = 8 := by omega
    rcases hv with e | e | e | e | e | e | e <;> subst e
    · exact dk_2 c p g1
    · exact dk_3 c p g1
    · exact dk_4 c p g1
    · exact dk_5 c p g1
    · exact dk_6 c p g1
    · exact dk_7 c p g1
    · exact dk_8 c p g1
def kd_one (i : Instr) (n : Nat) (L : List UInt8) : Option (List UInt8) :=
  match i with
  | .aload k => kd_1 25 k n L
  | .astore k => kd_1 58 k n L
  | .iload k => kd_1 21 k n L
  | .istore k => kd_1 54 k n L
  | .ldc k => kd_1 18 k n L
  | .lload k => kd_1 22 k n L
  | .lstore k => kd_1 55 k n L
  | .anewarray k => kd_2 189 k n L
  | .getfield k => kd_2 180 k n L
  | .getstatic k => kd_2 178 k n L
  | .invokespecial k => kd_2 183 k n L
  | .invokestatic k => kd_2 184 k n L
  | .invokevirtual k => kd_2 182 k n L
  | .ldc2_w k => kd_2 20 k n L
  | .ldc_w k => kd_2 19 k n L
  | .new k => kd_2 187 k n L
  | .putfield k => kd_2 181 k n L
  | .iconst k => kd_ic k n L
  | .aload_n k => kd_0 (42 + k.val) n L
  | .astore_n k => kd_0 (75 + k.val) n L
  | .iload_n k => kd_0 (26 + k.val) n L
  | .istore_n k => kd_0 (59 + k.val) n L
  | .lconst k => kd_0 (9 + k.val) n L
  | .lload_n k => kd_0 (30 + k.val) n L
  | .lstore_n k => kd_0 (63 + k.val) n L
  | .iinc k v => kd_ii k v n L
  | .ifCond k v => kd_s2 (153 + kd_cc k) v n L
  | .if_icmp k v => kd_s2 (159 + kd_cc k) v n L
  | .aaload => kd_0 50 n L
  | .aastore => kd_0 83 n L
  | .arraylength => kd_0 190 n L
  | .dup => kd_0 89 n L
  | .dup2 => kd_0 92 n L
  | .i2b => kd_0 145 n L
  | .i2l => kd_0 133 n L
  | .iadd => kd_0 96 n L
  | .iaload => kd_0 46 n L
  | .iand => kd_0 126 n L
  | .iastore => kd_0 79 n L
  | .idiv => kd_0 108 n L
  | .imul => kd_0 104 n L
  | .ineg => kd_0 116 n L
  | .ior => kd_0 128 n L
  | .irem => kd_0 112 n L
  | .ireturn => kd_0 172 n L
  | .ishl => kd_0 120 n L
  | .ishr => kd_0 122 n L
  | .isub => kd_0 100 n L
  | .iushr => kd_0 124 n L
  | .ixor => kd_0 130 n L
  | .l2i => kd_0 136 n L
  | .ladd => kd_0 97 n L
  | .lcmp => kd_0 148 n L
  | .ldiv => kd_0 109 n L
  | .lmul => kd_0 105 n L
  | .lneg => kd_0 117 n L
  | .lrem => kd_0 113 n L
  | .lreturn => kd_0 173 n L
  | .pop => kd_0 87 n L
  | .pop2 => kd_0 88 n L
  | .return_ => kd_0 177 n L
  | .bipush k => kd_s1 16 k n L
  | .goto k => kd_s2 167 k n L
  | .sipush k => kd_s2 17 k n L
  | _ => none
theorem kd_one_ok {c : ByteArray} {p n : Nat} {i : Instr} {L r : List UInt8} (hL : c.data.toList.drop p = L) (h : kd_one i n L = some r) : decode c p = .ok (i, n) ∧ c.data.toList.drop (p + n) = r := by
  cases i
  case aload k => exact kd_1_ok hL h (fun h0 h1 => dk_25 c p h0 _ h1)
  case astore k => exact kd_1_ok hL h (fun h0 h1 => dk_58 c p h0 _ h1)
  case iload k => exact kd_1_ok hL h (fun h0 h1 => dk_21 c p h0 _ h1)
  case istore k => exact kd_1_ok hL h (fun h0 h1 => dk_54 c p h0 _ h1)
  case ldc k => exact kd_1_ok hL h (fun h0 h1 => dk_18 c p h0 _ h1)
  case lload k => exact kd_1_ok hL h (fun h0 h1 => dk_22 c p h0 _ h1)
  case lstore k => exact kd_1_ok hL h (fun h0 h1 => dk_55 c p h0 _ h1)
  case anewarray k => exact kd_2_ok hL h (fun h0 x h1 y h2 e => e ▸ dk_189 c p h0 x h1 y h2)
  case getfield k => exact kd_2_ok hL h (fun h0 x h1 y h2 e => e ▸ dk_180 c p h0 x h1 y h2)
  case getstatic k => exact kd_2_ok hL h (fun h0 x h1 y h2 e => e ▸ dk_178 c p h0 x h1 y h2)
  case invokespecial k => exact kd_2_ok hL h (fun h0 x h1 y h2 e => e ▸ dk_183 c p h0 x h1 y h2)
  case invokestatic k => exact kd_2_ok hL h (fun h0 x h1 y h2 e => e ▸ dk_184 c p h0 x h1 y h2)
  case invokevirtual k => exact kd_2_ok hL h (fun h0 x h1 y h2 e => e ▸ dk_182 c p h0 x h1 y h2)
  case ldc2_w k => exact kd_2_ok hL h (fun h0 x h1 y h2 e => e ▸ dk_20 c p h0 x h1 y h2)
  case ldc_w k => exact kd_2_ok hL h (fun h0 x h1 y h2 e => e ▸ dk_19 c p h0 x h1 y h2)
  case new k => exact kd_2_ok hL h (fun h0 x h1 y h2 e => e ▸ dk_187 c p h0 x h1 y h2)
  case putfield k => exact kd_2_ok hL h (fun h0 x h1 y h2 e => e ▸ dk_181 c p h0 x h1 y h2)
  case iconst k => exact kd_ic_ok hL h
  case aload_n k => exact kd_0_ok (o := 42 + k.val) hL h (match k with | 0 => dk_42 c p | 1 => dk_43 c p | 2 => dk_44 c p | 3 => dk_45 c p)
  case astore_n k => exact kd_0_ok (o := 75 + k.val) hL h (match k with | 0 => dk_75 c p | 1 => dk_76 c p | 2 => dk_77 c p | 3 => dk_78 c p)
  case iload_n k => exact kd_0_ok (o := 26 + k.val) hL h (match k with | 0 => dk_26 c p | 1 => dk_27 c p | 2 => dk_28 c p | 3 => dk_29 c p)
  case istore_n k => exact kd_0_ok (o := 59 + k.val) hL h (match k with | 0 => dk_59 c p | 1 => dk_60 c p | 2 => dk_61 c p | 3 => dk_62 c p)
  case lconst k => exact kd_0_ok (o := 9 + k.val) hL h (match k with | 0 => dk_9 c p | 1 => dk_10 c p)
  case lload_n k => exact kd_0_ok (o := 30 + k.val) hL h (match k with | 0 => dk_30 c p | 1 => dk_31 c p | 2 => dk_32 c p | 3 => dk_33 c p)
  case lstore_n k => exact kd_0_ok (o := 63 + k.val) hL h (match k with | 0 => dk_63 c p | 1 => dk_64 c p | 2 => dk_65 c p | 3 => dk_66 c p)
  case iinc k v => exact kd_ii_ok hL h
  case ifCond k v => exact kd_s2_ok (o := 153 + kd_cc k) hL h (fun h0 x h1 y h2 e => e ▸ (match k, h0 with | .eq, h0 => dk_153 c p h0 x h1 y h2 | .ne, h0 => dk_154 c p h0 x h1 y h2 | .lt, h0 => dk_155 c p h0 x h1 y h2 | .ge, h0 => dk_156 c p h0 x h1 y h2 | .gt, h0 => dk_157 c p h0 x h1 y h2 | .le, h0 => dk_158 c p h0 x h1 y h2))
  case if_icmp k v => exact kd_s2_ok (o := 159 + kd_cc k) hL h (fun h0 x h1 y h2 e => e ▸ (match k, h0 with | .eq, h0 => dk_159 c p h0 x h1 y h2 | .ne, h0 => dk_160 c p h0 x h1 y h2 | .lt, h0 => dk_161 c p h0 x h1 y h2 | .ge, h0 => dk_162 c p h0 x h1 y h2 | .gt, h0 => dk_163 c p h0 x h1 y h2 | .le, h0 => dk_164 c p h0 x h1 y h2))
  case aaload => exact kd_0_ok hL h (dk_50 c p)
  case aastore => exact kd_0_ok hL h (dk_83 c p)
  case arraylength => exact kd_0_ok hL h (dk_190 c p)
  case dup => exact kd_0_ok hL h (dk_89 c p)
  case dup2 => exact kd_0_ok hL h (dk_92 c p)
  case i2b => exact kd_0_ok hL h (dk_145 c p)
  case i2l => exact kd_0_ok hL h (dk_133 c p)
  case iadd => exact kd_0_ok hL h (dk_96 c p)
  case iaload => exact kd_0_ok hL h (dk_46 c p)
  case iand => exact kd_0_ok hL h (dk_126 c p)
  case iastore => exact kd_0_ok hL h (dk_79 c p)
  case idiv => exact kd_0_ok hL h (dk_108 c p)
  case imul => exact kd_0_ok hL h (dk_104 c p)
  case ineg => exact kd_0_ok hL h (dk_116 c p)
  case ior => exact kd_0_ok hL h (dk_128 c p)
  case irem => exact kd_0_ok hL h (dk_112 c p)
  case ireturn => exact kd_0_ok hL h (dk_172 c p)
  case ishl => exact kd_0_ok hL h (dk_120 c p)
  case ishr => exact kd_0_ok hL h (dk_122 c p)
  case isub => exact kd_0_ok hL h (dk_100 c p)
  case iushr => exact kd_0_ok hL h (dk_124 c p)
  case ixor => exact kd_0_ok hL h (dk_130 c p)
  case l2i => exact kd_0_ok hL h (dk_136 c p)
  case ladd => exact kd_0_ok hL h (dk_97 c p)
  case lcmp => exact kd_0_ok hL h (dk_148 c p)
  case ldiv => exact kd_0_ok hL h (dk_109 c p)
  case lmul => exact kd_0_ok hL h (dk_105 c p)
  case lneg => exact kd_0_ok hL h (dk_117 c p)
  case lrem => exact kd_0_ok hL h (dk_113 c p)
  case lreturn => exact kd_0_ok hL h (dk_173 c p)
  case pop => exact kd_0_ok hL h (dk_87 c p)
  case pop2 => exact kd_0_ok hL h (dk_88 c p)
  case return_ => exact kd_0_ok hL h (dk_177 c p)
  case bipush k => exact kd_s1_ok hL h (fun h0 x h1 e => e ▸ dk_16 c p h0 x h1)
  case goto k => exact kd_s2_ok hL h (fun h0 x h1 y h2 e => e ▸ dk_167 c p h0 x h1 y h2)
  case sipush k => exact kd_s2_ok hL h (fun h0 x h1 y h2 e => e ▸ dk_17 c p h0 x h1 y h2)
  all_goals exact absurd (show (none : Option (List UInt8)) = some r from h) (fun e => nomatch e)
def kd_all (c : ByteArray) (L : List UInt8) (p : Nat) : List (Nat × Instr × Nat) → Bool
  | [] => true
  | (q, i, n) :: t => bif Nat.beq q p then (match kd_one i n L with | some r => kd_all c r (q + n) t | none => bif decide (decode c q = .ok (i, n)) then kd_all c (L.drop n) (q + n) t else false) else false
theorem kd_all_ok (c : ByteArray) : ∀ (T : List (Nat × Instr × Nat)) (L : List UInt8) (p : Nat), c.data.toList.drop p = L → kd_all c L p T = true → ∀ q ∈ T, decode c q.1 = .ok q.2
  | [], _, _, _, _ => fun _ h => absurd h List.not_mem_nil
  | (q, i, n) :: t, L, p, hL, h => by
    have h' : (bif Nat.beq q p then (match kd_one i n L with | some r => kd_all c r (q + n) t | none => bif decide (decode c q = .ok (i, n)) then kd_all c (L.drop n) (q + n) t else false) else false) = true := h
    cases hb : Nat.beq q p with
    | false => rw [hb] at h'; cases h'
    | true =>
      rw [hb] at h'
      have e := Nat.eq_of_beq_eq_true hb
      subst e
      cases ho : kd_one i n L with
      | none =>
        rw [ho] at h'
        cases hd : decide (decode c q = .ok (i, n)) with
        | false => simp only [hd] at h'; cases h'
        | true =>
          simp only [hd] at h'
          have g2 : c.data.toList.drop (q + n) = L.drop n := by rw [← hL, List.drop_drop]
          exact List.forall_mem_cons.mpr ⟨of_decide_eq_true hd, kd_all_ok c t _ (q + n) g2 h'⟩
      | some r =>
        rw [ho] at h'
        obtain ⟨g1, g2⟩ := kd_one_ok hL ho
        exact List.forall_mem_cons.mpr ⟨g1, kd_all_ok c t r (q + n) g2 h'⟩
theorem kd_tab (c : ByteArray) (T : List (Nat × Instr × Nat)) (h : kd_all c c.data.toList 0 T = true) : ∀ q ∈ T, decode c q.1 = .ok q.2 := kd_all_ok c T _ 0 rfl h
theorem kd_tab2 (c : ByteArray) (p : Nat) (T : List (Nat × Instr × Nat)) (h : kd_all c (c.data.toList.drop p) p T = true) : ∀ q ∈ T, decode c q.1 = .ok q.2 := kd_all_ok c T _ p rfl h
