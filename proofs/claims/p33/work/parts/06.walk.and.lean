section
theorem dk_2 (c : ByteArray) (p : Nat) (h0 : (Reader.u1 : Decoder Nat) c p = .ok (2, p + 1)) : decode c p = .ok (.iconst (-1), 1) := by
  have e : decode c p = Except.bind (Except.bind ((Reader.u1 : Decoder Nat) c p) _) _ := rfl
  rw [e, h0]
  show (Except.ok (.iconst (-1), p + 1 - p) : Except DecodeError (Instr × Nat)) = _
  rw [show p + 1 - p = 1 by omega]
theorem dk_3 (c : ByteArray) (p : Nat) (h0 : (Reader.u1 : Decoder Nat) c p = .ok (3, p + 1)) : decode c p = .ok (.iconst 0, 1) := by
  have e : decode c p = Except.bind (Except.bind ((Reader.u1 : Decoder Nat) c p) _) _ := rfl
  rw [e, h0]
  show (Except.ok (.iconst 0, p + 1 - p) : Except DecodeError (Instr × Nat)) = _
  rw [show p + 1 - p = 1 by omega]
theorem dk_4 (c : ByteArray) (p : Nat) (h0 : (Reader.u1 : Decoder Nat) c p = .ok (4, p + 1)) : decode c p = .ok (.iconst 1, 1) := by
  have e : decode c p = Except.bind (Except.bind ((Reader.u1 : Decoder Nat) c p) _) _ := rfl
  rw [e, h0]
  show (Except.ok (.iconst 1, p + 1 - p) : Except DecodeError (Instr × Nat)) = _
  rw [show p + 1 - p = 1 by omega]
theorem dk_5 (c : ByteArray) (p : Nat) (h0 : (Reader.u1 : Decoder Nat) c p = .ok (5, p + 1)) : decode c p = .ok (.iconst 2, 1) := by
  have e : decode c p = Except.bind (Except.bind ((Reader.u1 : Decoder Nat) c p) _) _ := rfl
  rw [e, h0]
  show (Except.ok (.iconst 2, p + 1 - p) : Except DecodeError (Instr × Nat)) = _
  rw [show p + 1 - p = 1 by omega]
theorem dk_6 (c : ByteArray) (p : Nat) (h0 : (Reader.u1 : Decoder Nat) c p = .ok (6, p + 1)) : decode c p = .ok (.iconst 3, 1) := by
  have e : decode c p = Except.bind (Except.bind ((Reader.u1 : Decoder Nat) c p) _) _ := rfl
  rw [e, h0]
  show (Except.ok (.iconst 3, p + 1 - p) : Except DecodeError (Instr × Nat)) = _
  rw [show p + 1 - p = 1 by omega]
theorem dk_7 (c : ByteArray) (p : Nat) (h0 : (Reader.u1 : Decoder Nat) c p = .ok (7, p + 1)) : decode c p = .ok (.iconst 4, 1) := by
  have e : decode c p = Except.bind (Except.bind ((Reader.u1 : Decoder Nat) c p) _) _ := rfl
  rw [e, h0]
  show (Except.ok (.iconst 4, p + 1 - p) : Except DecodeError (Instr × Nat)) = _
  rw [show p + 1 - p = 1 by omega]
theorem dk_8 (c : ByteArray) (p : Nat) (h0 : (Reader.u1 : Decoder Nat) c p = .ok (8, p + 1)) : decode c p = .ok (.iconst 5, 1) := by
  have e : decode c p = Except.bind (Except.bind ((Reader.u1 : Decoder Nat) c p) _) _ := rfl
  rw [e, h0]
  show (Except.ok (.iconst 5, p + 1 - p) : Except DecodeError (Instr × Nat)) = _
  rw [show p + 1 - p = 1 by omega]
theorem dk_9 (c : ByteArray) (p : Nat) (h0 : (Reader.u1 : Decoder Nat) c p = .ok (9, p + 1)) : decode c p = .ok (.lconst 0, 1) := by
  have e : decode c p = Except.bind (Except.bind ((Reader.u1 : Decoder Nat) c p) _) _ := rfl
  rw [e, h0]
  show (Except.ok (.lconst 0, p + 1 - p) : Except DecodeError (Instr × Nat)) = _
  rw [show p + 1 - p = 1 by omega]
theorem dk_10 (c : ByteArray) (p : Nat) (h0 : (Reader.u1 : Decoder Nat) c p = .ok (10, p + 1)) : decode c p = .ok (.lconst 1, 1) := by
  have e : decode c p = Except.bind (Except.bind ((Reader.u1 : Decoder Nat) c p) _) _ := rfl
  rw [e, h0]
  show (Except.ok (.lconst 1, p + 1 - p) : Except DecodeError (Instr × Nat)) = _
  rw [show p + 1 - p = 1 by omega]
theorem dk_16 (c : ByteArray) (p : Nat) (h0 : (Reader.u1 : Decoder Nat) c p = .ok (16, p + 1)) (b1 : Nat) (h1 : (Reader.u1 : Decoder Nat) c (p + 1) = .ok (b1, p + 1 + 1)) : decode c p = .ok (.bipush (Reader.signed 8 b1), 2) := by
  have e : decode c p = Except.bind (Except.bind ((Reader.u1 : Decoder Nat) c p) _) _ := rfl
  rw [e, h0]
  show Except.bind (Except.bind (Except.bind ((Reader.u1 : Decoder Nat) c (p + 1)) _) _) _ = _
  rw [h1]
  show (Except.ok (.bipush (Reader.signed 8 b1), p + 1 + 1 - p) : Except DecodeError (Instr × Nat)) = _
  rw [show p + 1 + 1 - p = 2 by omega]
theorem dk_17 (c : ByteArray) (p : Nat) (h0 : (Reader.u1 : Decoder Nat) c p = .ok (17, p + 1)) (b1 : Nat) (h1 : (Reader.u1 : Decoder Nat) c (p + 1) = .ok (b1, p + 1 + 1)) (b2 : Nat) (h2 : (Reader.u1 : Decoder Nat) c (p + 1 + 1) = .ok (b2, p + 1 + 1 + 1)) : decode c p = .ok (.sipush (Reader.signed 16 (b1 * 256 + b2)), 3) := by
  have e : decode c p = Except.bind (Except.bind ((Reader.u1 : Decoder Nat) c p) _) _ := rfl
  rw [e, h0]
  show Except.bind (Except.bind (Except.bind (Except.bind ((Reader.u1 : Decoder Nat) c (p + 1)) _) _) _) _ = _
  rw [h1]
  show Except.bind (Except.bind (Except.bind (Except.bind ((Reader.u1 : Decoder Nat) c (p + 1 + 1)) _) _) _) _ = _
  rw [h2]
  show (Except.ok (.sipush (Reader.signed 16 (b1 * 256 + b2)), p + 1 + 1 + 1 - p) : Except DecodeError (Instr × Nat)) = _
  rw [show p + 1 + 1 + 1 - p = 3 by omega]
theorem dk_18 (c : ByteArray) (p : Nat) (h0 : (Reader.u1 : Decoder Nat) c p = .ok (18, p + 1)) (b1 : Nat) (h1 : (Reader.u1 : Decoder Nat) c (p + 1) = .ok (b1, p + 1 + 1)) : decode c p = .ok (.ldc b1, 2) := by
  have e : decode c p = Except.bind (Except.bind ((Reader.u1 : Decoder Nat) c p) _) _ := rfl
  rw [e, h0]
  show Except.bind (Except.bind ((Reader.u1 : Decoder Nat) c (p + 1)) _) _ = _
  rw [h1]
  show (Except.ok (.ldc b1, p + 1 + 1 - p) : Except DecodeError (Instr × Nat)) = _
  rw [show p + 1 + 1 - p = 2 by omega]
theorem dk_19 (c : ByteArray) (p : Nat) (h0 : (Reader.u1 : Decoder Nat) c p = .ok (19, p + 1)) (b1 : Nat) (h1 : (Reader.u1 : Decoder Nat) c (p + 1) = .ok (b1, p + 1 + 1)) (b2 : Nat) (h2 : (Reader.u1 : Decoder Nat) c (p + 1 + 1) = .ok (b2, p + 1 + 1 + 1)) : decode c p = .ok (.ldc_w (b1 * 256 + b2), 3) := by
  have e : decode c p = Except.bind (Except.bind ((Reader.u1 : Decoder Nat) c p) _) _ := rfl
  rw [e, h0]
  show Except.bind (Except.bind (Except.bind ((Reader.u1 : Decoder Nat) c (p + 1)) _) _) _ = _
  rw [h1]
  show Except.bind (Except.bind (Except.bind ((Reader.u1 : Decoder Nat) c (p + 1 + 1)) _) _) _ = _
  rw [h2]
  show (Except.ok (.ldc_w (b1 * 256 + b2), p + 1 + 1 + 1 - p) : Except DecodeError (Instr × Nat)) = _
  rw [show p + 1 + 1 + 1 - p = 3 by omega]
theorem dk_20 (c : ByteArray) (p : Nat) (h0 : (Reader.u1 : Decoder Nat) c p = .ok (20, p + 1)) (b1 : Nat) (h1 : (Reader.u1 : Decoder Nat) c (p + 1) = .ok (b1, p + 1 + 1)) (b2 : Nat) (h2 : (Reader.u1 : Decoder Nat) c (p + 1 + 1) = .ok (b2, p + 1 + 1 + 1)) : decode c p = .ok (.ldc2_w (b1 * 256 + b2), 3) := by
  have e : decode c p = Except.bind (Except.bind ((Reader.u1 : Decoder Nat) c p) _) _ := rfl
  rw [e, h0]
  show Except.bind (Except.bind (Except.bind ((Reader.u1 : Decoder Nat) c (p + 1)) _) _) _ = _
  rw [h1]
  show Except.bind (Except.bind (Except.bind ((Reader.u1 : Decoder Nat) c (p + 1 + 1)) _) _) _ = _
  rw [h2]
  show (Except.ok (.ldc2_w (b1 * 256 + b2), p + 1 + 1 + 1 - p) : Except DecodeError (Instr × Nat)) = _
  rw [show p + 1 + 1 + 1 - p = 3 by omega]
theorem dk_21 (c : ByteArray) (p : Nat) (h0 : (Reader.u1 : Decoder Nat) c p = .ok (21, p + 1)) (b1 : Nat) (h1 : (Reader.u1 : Decoder Nat) c (p + 1) = .ok (b1, p + 1 + 1)) : decode c p = .ok (.iload b1, 2) := by
  have e : decode c p = Except.bind (Except.bind ((Reader.u1 : Decoder Nat) c p) _) _ := rfl
  rw [e, h0]
  show Except.bind (Except.bind ((Reader.u1 : Decoder Nat) c (p + 1)) _) _ = _
  rw [h1]
  show (Except.ok (.iload b1, p + 1 + 1 - p) : Except DecodeError (Instr × Nat)) = _
  rw [show p + 1 + 1 - p = 2 by omega]
theorem dk_22 (c : ByteArray) (p : Nat) (h0 : (Reader.u1 : Decoder Nat) c p = .ok (22, p + 1)) (b1 : Nat) (h1 : (Reader.u1 : Decoder Nat) c (p + 1) = .ok (b1, p + 1 + 1)) : decode c p = .ok (.lload b1, 2) := by
  have e : decode c p = Except.bind (Except.bind ((Reader.u1 : Decoder Nat) c p) _) _ := rfl
  rw [e, h0]
  show Except.bind (Except.bind ((Reader.u1 : Decoder Nat) c (p + 1)) _) _ = _
  rw [h1]
  show (Except.ok (.lload b1, p + 1 + 1 - p) : Except DecodeError (Instr × Nat)) = _
  rw [show p + 1 + 1 - p = 2 by omega]
theorem dk_25 (c : ByteArray) (p : Nat) (h0 : (Reader.u1 : Decoder Nat) c p = .ok (25, p + 1)) (b1 : Nat) (h1 : (Reader.u1 : Decoder Nat) c (p + 1) = .ok (b1, p + 1 + 1)) : decode c p = .ok (.aload b1, 2) := by
  have e : decode c p = Except.bind (Except.bind ((Reader.u1 : Decoder Nat) c p) _) _ := rfl
  rw [e, h0]
  show Except.bind (Except.bind ((Reader.u1 : Decoder Nat) c (p + 1)) _) _ = _
  rw [h1]
  show (Except.ok (.aload b1, p + 1 + 1 - p) : Except DecodeError (Instr × Nat)) = _
  rw [show p + 1 + 1 - p = 2 by omega]
theorem dk_26 (c : ByteArray) (p : Nat) (h0 : (Reader.u1 : Decoder Nat) c p = .ok (26, p + 1)) : decode c p = .ok (.iload_n 0, 1) := by
  have e : decode c p = Except.bind (Except.bind ((Reader.u1 : Decoder Nat) c p) _) _ := rfl
  rw [e, h0]
  show (Except.ok (.iload_n 0, p + 1 - p) : Except DecodeError (Instr × Nat)) = _
  rw [show p + 1 - p = 1 by omega]
theorem dk_27 (c : ByteArray) (p : Nat) (h0 : (Reader.u1 : Decoder Nat) c p = .ok (27, p + 1)) : decode c p = .ok (.iload_n 1, 1) := by
  have e : decode c p = Except.bind (Except.bind ((Reader.u1 : Decoder Nat) c p) _) _ := rfl
  rw [e, h0]
  show (Except.ok (.iload_n 1, p + 1 - p) : Except DecodeError (Instr × Nat)) = _
  rw [show p + 1 - p = 1 by omega]
theorem dk_28 (c : ByteArray) (p : Nat) (h0 : (Reader.u1 : Decoder Nat) c p = .ok (28, p + 1)) : decode c p = .ok (.iload_n 2, 1) := by
  have e : decode c p = Except.bind (Except.bind ((Reader.u1 : Decoder Nat) c p) _) _ := rfl
  rw [e, h0]
  show (Except.ok (.iload_n 2, p + 1 - p) : Except DecodeError (Instr × Nat)) = _
  rw [show p + 1 - p = 1 by omega]
theorem dk_29 (c : ByteArray) (p : Nat) (h0 : (Reader.u1 : Decoder Nat) c p = .ok (29, p + 1)) : decode c p = .ok (.iload_n 3, 1) := by
  have e : decode c p = Except.bind (Except.bind ((Reader.u1 : Decoder Nat) c p) _) _ := rfl
  rw [e, h0]
  show (Except.ok (.iload_n 3, p + 1 - p) : Except DecodeError (Instr × Nat)) = _
  rw [show p + 1 - p = 1 by omega]
theorem dk_30 (c : ByteArray) (p : Nat) (h0 : (Reader.u1 : Decoder Nat) c p = .ok (30, p + 1)) : decode c p = .ok (.lload_n 0, 1) := by
  have e : decode c p = Except.bind (Except.bind ((Reader.u1 : Decoder Nat) c p) _) _ := rfl
  rw [e, h0]
  show (Except.ok (.lload_n 0, p + 1 - p) : Except DecodeError (Instr × Nat)) = _
  rw [show p + 1 - p = 1 by omega]
theorem dk_31 (c : ByteArray) (p : Nat) (h0 : (Reader.u1 : Decoder Nat) c p = .ok (31, p + 1)) : decode c p = .ok (.lload_n 1, 1) := by
  have e : decode c p = Except.bind (Except.bind ((Reader.u1 : Decoder Nat) c p) _) _ := rfl
  rw [e, h0]
  show (Except.ok (.lload_n 1, p + 1 - p) : Except DecodeError (Instr × Nat)) = _
  rw [show p + 1 - p = 1 by omega]
theorem dk_32 (c : ByteArray) (p : Nat) (h0 : (Reader.u1 : Decoder Nat) c p = .ok (32, p + 1)) : decode c p = .ok (.lload_n 2, 1) := by
  have e : decode c p = Except.bind (Except.bind ((Reader.u1 : Decoder Nat) c p) _) _ := rfl
  rw [e, h0]
  show (Except.ok (.lload_n 2, p + 1 - p) : Except DecodeError (Instr × Nat)) = _
  rw [show p + 1 - p = 1 by omega]
theorem dk_33 (c : ByteArray) (p : Nat) (h0 : (Reader.u1 : Decoder Nat) c p = .ok (33, p + 1)) : decode c p = .ok (.lload_n 3, 1) := by
  have e : decode c p = Except.bind (Except.bind ((Reader.u1 : Decoder Nat) c p) _) _ := rfl
  rw [e, h0]
  show (Except.ok (.lload_n 3, p + 1 - p) : Except DecodeError (Instr × Nat)) = _
  rw [show p + 1 - p = 1 by omega]
theorem dk_42 (c : ByteArray) (p : Nat) (h0 : (Reader.u1 : Decoder Nat) c p = .ok (42, p + 1)) : decode c p = .ok (.aload_n 0, 1) := by
  have e : decode c p = Except.bind (Except.bind ((Reader.u1 : Decoder Nat) c p) _) _ := rfl
  rw [e, h0]
  show (Except.ok (.aload_n 0, p + 1 - p) : Except DecodeError (Instr × Nat)) = _
  rw [show p + 1 - p = 1 by omega]
theorem dk_43 (c : ByteArray) (p : Nat) (h0 : (Reader.u1 : Decoder Nat) c p = .ok (43, p + 1)) : decode c p = .ok (.aload_n 1, 1) := by
  have e : decode c p = Except.bind (Except.bind ((Reader.u1 : Decoder Nat) c p) _) _ := rfl
  rw [e, h0]
  show (Except.ok (.aload_n 1, p + 1 - p) : Except DecodeError (Instr × Nat)) = _
  rw [show p + 1 - p = 1 by omega]
theorem dk_44 (c : ByteArray) (p : Nat) (h0 : (Reader.u1 : Decoder Nat) c p = .ok (44, p + 1)) : decode c p = .ok (.aload_n 2, 1) := by
  have e : decode c p = Except.bind (Except.bind ((Reader.u1 : Decoder Nat) c p) _) _ := rfl
  rw [e, h0]
  show (Except.ok (.aload_n 2, p + 1 - p) : Except DecodeError (Instr × Nat)) = _
  rw [show p + 1 - p = 1 by omega]
theorem dk_45 (c : ByteArray) (p : Nat) (h0 : (Reader.u1 : Decoder Nat) c p = .ok (45, p + 1)) : decode c p = .ok (.aload_n 3, 1) := by
  have e : decode c p = Except.bind (Except.bind ((Reader.u1 : Decoder Nat) c p) _) _ := rfl
  rw [e, h0]
  show (Except.ok (.aload_n 3, p + 1 - p) : Except DecodeError (Instr × Nat)) = _
  rw [show p + 1 - p = 1 by omega]
theorem dk_46 (c : ByteArray) (p : Nat) (h0 : (Reader.u1 : Decoder Nat) c p = .ok (46, p + 1)) : decode c p = .ok (.iaload, 1) := by
  have e : decode c p = Except.bind (Except.bind ((Reader.u1 : Decoder Nat) c p) _) _ := rfl
  rw [e, h0]
  show (Except.ok (.iaload, p + 1 - p) : Except DecodeError (Instr × Nat)) = _
  rw [show p + 1 - p = 1 by omega]
theorem dk_50 (c : ByteArray) (p : Nat) (h0 : (Reader.u1 : Decoder Nat) c p = .ok (50, p + 1)) : decode c p = .ok (.aaload, 1) := by
  have e : decode c p = Except.bind (Except.bind ((Reader.u1 : Decoder Nat) c p) _) _ := rfl
  rw [e, h0]
  show (Except.ok (.aaload, p + 1 - p) : Except DecodeError (Instr × Nat)) = _
  rw [show p + 1 - p = 1 by omega]
theorem dk_54 (c : ByteArray) (p : Nat) (h0 : (Reader.u1 : Decoder Nat) c p = .ok (54, p + 1)) (b1 : Nat) (h1 : (Reader.u1 : Decoder Nat) c (p + 1) = .ok (b1, p + 1 + 1)) : decode c p = .ok (.istore b1, 2) := by
  have e : decode c p = Except.bind (Except.bind ((Reader.u1 : Decoder Nat) c p) _) _ := rfl
  rw [e, h0]
  show Except.bind (Except.bind ((Reader.u1 : Decoder Nat) c (p + 1)) _) _ = _
  rw [h1]
  show (Except.ok (.istore b1, p + 1 + 1 - p) : Except DecodeError (Instr × Nat)) = _
  rw [show p + 1 + 1 - p = 2 by omega]
theorem dk_55 (c : ByteArray) (p : Nat) (h0 : (Reader.u1 : Decoder Nat) c p = .ok (55, p + 1)) (b1 : Nat) (h1 : (Reader.u1 : Decoder Nat) c (p + 1) = .ok (b1, p + 1 + 1)) : decode c p = .ok (.lstore b1, 2) := by
  have e : decode c p = Except.bind (Except.bind ((Reader.u1 : Decoder Nat) c p) _) _ := rfl
  rw [e, h0]
  show Except.bind (Except.bind ((Reader.u1 : Decoder Nat) c (p + 1)) _) _ = _
  rw [h1]
  show (Except.ok (.lstore b1, p + 1 + 1 - p) : Except DecodeError (Instr × Nat)) = _
  rw [show p + 1 + 1 - p = 2 by omega]
theorem dk_58 (c : ByteArray) (p : Nat) (h0 : (Reader.u1 : Decoder Nat) c p = .ok (58, p + 1)) (b1 : Nat) (h1 : (Reader.u1 : Decoder Nat) c (p + 1) = .ok (b1, p + 1 + 1)) : decode c p = .ok (.astore b1, 2) := by
  have e : decode c p = Except.bind (Except.bind ((Reader.u1 : Decoder Nat) c p) _) _ := rfl
  rw [e, h0]
  show Except.bind (Except.bind ((Reader.u1 : Decoder Nat) c (p + 1)) _) _ = _
  rw [h1]
  show (Except.ok (.astore b1, p + 1 + 1 - p) : Except DecodeError (Instr × Nat)) = _
  rw [show p + 1 + 1 - p = 2 by omega]
theorem dk_59 (c : ByteArray) (p : Nat) (h0 : (Reader.u1 : Decoder Nat) c p = .ok (59, p + 1)) : decode c p = .ok (.istore_n 0, 1) := by
  have e : decode c p = Except.bind (Except.bind ((Reader.u1 : Decoder Nat) c p) _) _ := rfl
  rw [e, h0]
  show (Except.ok (.istore_n 0, p + 1 - p) : Except DecodeError (Instr × Nat)) = _
  rw [show p + 1 - p = 1 by omega]
theorem dk_60 (c : ByteArray) (p : Nat) (h0 : (Reader.u1 : Decoder Nat) c p = .ok (60, p + 1)) : decode c p = .ok (.istore_n 1, 1) := by
  have e : decode c p = Except.bind (Except.bind ((Reader.u1 : Decoder Nat) c p) _) _ := rfl
  rw [e, h0]
  show (Except.ok (.istore_n 1, p + 1 - p) : Except DecodeError (Instr × Nat)) = _
  rw [show p + 1 - p = 1 by omega]
theorem dk_61 (c : ByteArray) (p : Nat) (h0 : (Reader.u1 : Decoder Nat) c p = .ok (61, p + 1)) : decode c p = .ok (.istore_n 2, 1) := by
  have e : decode c p = Except.bind (Except.bind ((Reader.u1 : Decoder Nat) c p) _) _ := rfl
  rw [e, h0]
  show (Except.ok (.istore_n 2, p + 1 - p) : Except DecodeError (Instr × Nat)) = _
  rw [show p + 1 - p = 1 by omega]
theorem dk_62 (c : ByteArray) (p : Nat) (h0 : (Reader.u1 : Decoder Nat) c p = .ok (62, p + 1)) : decode c p = .ok (.istore_n 3, 1) := by
  have e : decode c p = Except.bind (Except.bind ((Reader.u1 : Decoder Nat) c p) _) _ := rfl
  rw [e, h0]
  show (Except.ok (.istore_n 3, p + 1 - p) : Except DecodeError (Instr × Nat)) = _
  rw [show p + 1 - p = 1 by omega]
theorem dk_63 (c : ByteArray) (p : Nat) (h0 : (Reader.u1 : Decoder Nat) c p = .ok (63, p + 1)) : decode c p = .ok (.lstore_n 0, 1) := by
  have e : decode c p = Except.bind (Except.bind ((Reader.u1 : Decoder Nat) c p) _) _ := rfl
  rw [e, h0]
  show (Except.ok (.lstore_n 0, p + 1 - p) : Except DecodeError (Instr × Nat)) = _
  rw [show p + 1 - p = 1 by omega]
theorem dk_64 (c : ByteArray) (p : Nat) (h0 : (Reader.u1 : Decoder Nat) c p = .ok (64, p + 1)) : decode c p = .ok (.lstore_n 1, 1) := by
  have e : decode c p = Except.bind (Except.bind ((Reader.u1 : Decoder Nat) c p) _) _ := rfl
  rw [e, h0]
  show (Except.ok (.lstore_n 1, p + 1 - p) : Except DecodeError (Instr × Nat)) = _
  rw [show p + 1 - p = 1 by omega]
theorem dk_65 (c : ByteArray) (p : Nat) (h0 : (Reader.u1 : Decoder Nat) c p = .ok (65, p + 1)) : decode c p = .ok (.lstore_n 2, 1) := by
  have e : decode c p = Except.bind (Except.bind ((Reader.u1 : Decoder Nat) c p) _) _ := rfl
  rw [e, h0]
  show (Except.ok (.lstore_n 2, p + 1 - p) : Except DecodeError (Instr × Nat)) = _
  rw [show p + 1 - p = 1 by omega]
theorem dk_66 (c : ByteArray) (p : Nat) (h0 : (Reader.u1 : Decoder Nat) c p = .ok (66, p + 1)) : decode c p = .ok (.lstore_n 3, 1) := by
  have e : decode c p = Except.bind (Except.bind ((Reader.u1 : Decoder Nat) c p) _) _ := rfl
  rw [e, h0]
  show (Except.ok (.lstore_n 3, p + 1 - p) : Except DecodeError (Instr × Nat)) = _
  rw [show p + 1 - p = 1 by omega]
theorem dk_75 (c : ByteArray) (p : Nat) (h0 : (Reader.u1 : Decoder Nat) c p = .ok (75, p + 1)) : decode c p = .ok (.astore_n 0, 1) := by
  have e : decode c p = Except.bind (Except.bind ((Reader.u1 : Decoder Nat) c p) _) _ := rfl
  rw [e, h0]
  show (Except.ok (.astore_n 0, p + 1 - p) : Except DecodeError (Instr × Nat)) = _
  rw [show p + 1 - p = 1 by omega]
theorem dk_76 (c : ByteArray) (p : Nat) (h0 : (Reader.u1 : Decoder Nat) c p = .ok (76, p + 1)) : decode c p = .ok (.astore_n 1, 1) := by
  have e : decode c p = Except.bind (Except.bind ((Reader.u1 : Decoder Nat) c p) _) _ := rfl
  rw [e, h0]
  show (Except.ok (.astore_n 1, p + 1 - p) : Except DecodeError (Instr × Nat)) = _
  rw [show p + 1 - p = 1 by omega]
theorem dk_77 (c : ByteArray) (p : Nat) (h0 : (Reader.u1 : Decoder Nat) c p = .ok (77, p + 1)) : decode c p = .ok (.astore_n 2, 1) := by
  have e : decode c p = Except.bind (Except.bind ((Reader.u1 : Decoder Nat) c p) _) _ := rfl
  rw [e, h0]
  show (Except.ok (.astore_n 2, p + 1 - p) : Except DecodeError (Instr × Nat)) = _
  rw [show p + 1 - p = 1 by omega]
theorem dk_78 (c : ByteArray) (p : Nat) (h0 : (Reader.u1 : Decoder Nat) c p = .ok (78, p + 1)) : decode c p = .ok (.astore_n 3, 1) := by
  have e : decode c p = Except.bind (Except.bind ((Reader.u1 : Decoder Nat) c p) _) _ := rfl
  rw [e, h0]
  show (Except.ok (.astore_n 3, p + 1 - p) : Except DecodeError (Instr × Nat)) = _
  rw [show p + 1 - p = 1 by omega]
theorem dk_79 (c : ByteArray) (p : Nat) (h0 : (Reader.u1 : Decoder Nat) c p = .ok (79, p + 1)) : decode c p = .ok (.iastore, 1) := by
  have e : decode c p = Except.bind (Except.bind ((Reader.u1 : Decoder Nat) c p) _) _ := rfl
  rw [e, h0]
  show (Except.ok (.iastore, p + 1 - p) : Except DecodeError (Instr × Nat)) = _
  rw [show p + 1 - p = 1 by omega]
theorem dk_83 (c : ByteArray) (p : Nat) (h0 : (Reader.u1 : Decoder Nat) c p = .ok (83, p + 1)) : decode c p = .ok (.aastore, 1) := by
  have e : decode c p = Except.bind (Except.bind ((Reader.u1 : Decoder Nat) c p) _) _ := rfl
  rw [e, h0]
  show (Except.ok (.aastore, p + 1 - p) : Except DecodeError (Instr × Nat)) = _
  rw [show p + 1 - p = 1 by omega]
theorem dk_87 (c : ByteArray) (p : Nat) (h0 : (Reader.u1 : Decoder Nat) c p = .ok (87, p + 1)) : decode c p = .ok (.pop, 1) := by
  have e : decode c p = Except.bind (Except.bind ((Reader.u1 : Decoder Nat) c p) _) _ := rfl
  rw [e, h0]
  show (Except.ok (.pop, p + 1 - p) : Except DecodeError (Instr × Nat)) = _
  rw [show p + 1 - p = 1 by omega]
theorem dk_88 (c : ByteArray) (p : Nat) (h0 : (Reader.u1 : Decoder Nat) c p = .ok (88, p + 1)) : decode c p = .ok (.pop2, 1) := by
  have e : decode c p = Except.bind (Except.bind ((Reader.u1 : Decoder Nat) c p) _) _ := rfl
  rw [e, h0]
  show (Except.ok (.pop2, p + 1 - p) : Except DecodeError (Instr × Nat)) = _
  rw [show p + 1 - p = 1 by omega]
theorem dk_89 (c : ByteArray) (p : Nat) (h0 : (Reader.u1 : Decoder Nat) c p = .ok (89, p + 1)) : decode c p = .ok (.dup, 1) := by
  have e : decode c p = Except.bind (Except.bind ((Reader.u1 : Decoder Nat) c p) _) _ := rfl
  rw [e, h0]
  show (Except.ok (.dup, p + 1 - p) : Except DecodeError (Instr × Nat)) = _
  rw [show p + 1 - p = 1 by omega]
theorem dk_92 (c : ByteArray) (p : Nat) (h0 : (Reader.u1 : Decoder Nat) c p = .ok (92, p + 1)) : decode c p = .ok (.dup2, 1) := by
  have e : decode c p = Except.bind (Except.bind ((Reader.u1 : Decoder Nat) c p) _) _ := rfl
  rw [e, h0]
  show (Except.ok (.dup2, p + 1 - p) : Except DecodeError (Instr × Nat)) = _
  rw [show p + 1 - p = 1 by omega]
theorem dk_96 (c : ByteArray) (p : Nat) (h0 : (Reader.u1 : Decoder Nat) c p = .ok (96, p + 1)) : decode c p = .ok (.iadd, 1) := by
  have e : decode c p = Except.bind (Except.bind ((Reader.u1 : Decoder Nat) c p) _) _ := rfl
  rw [e, h0]
  show (Except.ok (.iadd, p + 1 - p) : Except DecodeError (Instr × Nat)) = _
  rw [show p + 1 - p = 1 by omega]
theorem dk_97 (c : ByteArray) (p : Nat) (h0 : (Reader.u1 : Decoder Nat) c p = .ok (97, p + 1)) : decode c p = .ok (.ladd, 1) := by
  have e : decode c p = Except.bind (Except.bind ((Reader.u1 : Decoder Nat) c p) _) _ := rfl
  rw [e, h0]
  show (Except.ok (.ladd, p + 1 - p) : Except DecodeError (Instr × Nat)) = _
  rw [show p + 1 - p = 1 by omega]
theorem dk_100 (c : ByteArray) (p : Nat) (h0 : (Reader.u1 : Decoder Nat) c p = .ok (100, p + 1)) : decode c p = .ok (.isub, 1) := by
  have e : decode c p = Except.bind (Except.bind ((Reader.u1 : Decoder Nat) c p) _) _ := rfl
  rw [e, h0]
  show (Except.ok (.isub, p + 1 - p) : Except DecodeError (Instr × Nat)) = _
  rw [show p + 1 - p = 1 by omega]
theorem dk_104 (c : ByteArray) (p : Nat) (h0 : (Reader.u1 : Decoder Nat) c p = .ok (104, p + 1)) : decode c p = .ok (.imul, 1) := by
  have e : decode c p = Except.bind (Except.bind ((Reader.u1 : Decoder Nat) c p) _) _ := rfl
  rw [e, h0]
  show (Except.ok (.imul, p + 1 - p) : Except DecodeError (Instr × Nat)) = _
  rw [show p + 1 - p = 1 by omega]
theorem dk_105 (c : ByteArray) (p : Nat) (h0 : (Reader.u1 : Decoder Nat) c p = .ok (105, p + 1)) : decode c p = .ok (.lmul, 1) := by
  have e : decode c p = Except.bind (Except.bind ((Reader.u1 : Decoder Nat) c p) _) _ := rfl
  rw [e, h0]
  show (Except.ok (.lmul, p + 1 - p) : Except DecodeError (Instr × Nat)) = _
  rw [show p + 1 - p = 1 by omega]
theorem dk_108 (c : ByteArray) (p : Nat) (h0 : (Reader.u1 : Decoder Nat) c p = .ok (108, p + 1)) : decode c p = .ok (.idiv, 1) := by
  have e : decode c p = Except.bind (Except.bind ((Reader.u1 : Decoder Nat) c p) _) _ := rfl
  rw [e, h0]
  show (Except.ok (.idiv, p + 1 - p) : Except DecodeError (Instr × Nat)) = _
  rw [show p + 1 - p = 1 by omega]
theorem dk_109 (c : ByteArray) (p : Nat) (h0 : (Reader.u1 : Decoder Nat) c p = .ok (109, p + 1)) : decode c p = .ok (.ldiv, 1) := by
  have e : decode c p = Except.bind (Except.bind ((Reader.u1 : Decoder Nat) c p) _) _ := rfl
  rw [e, h0]
  show (Except.ok (.ldiv, p + 1 - p) : Except DecodeError (Instr × Nat)) = _
  rw [show p + 1 - p = 1 by omega]
theorem dk_112 (c : ByteArray) (p : Nat) (h0 : (Reader.u1 : Decoder Nat) c p = .ok (112, p + 1)) : decode c p = .ok (.irem, 1) := by
  have e : decode c p = Except.bind (Except.bind ((Reader.u1 : Decoder Nat) c p) _) _ := rfl
  rw [e, h0]
  show (Except.ok (.irem, p + 1 - p) : Except DecodeError (Instr × Nat)) = _
  rw [show p + 1 - p = 1 by omega]
theorem dk_113 (c : ByteArray) (p : Nat) (h0 : (Reader.u1 : Decoder Nat) c p = .ok (113, p + 1)) : decode c p = .ok (.lrem, 1) := by
  have e : decode c p = Except.bind (Except.bind ((Reader.u1 : Decoder Nat) c p) _) _ := rfl
  rw [e, h0]
  show (Except.ok (.lrem, p + 1 - p) : Except DecodeError (Instr × Nat)) = _
  rw [show p + 1 - p = 1 by omega]
theorem dk_116 (c : ByteArray) (p : Nat) (h0 : (Reader.u1 : Decoder Nat) c p = .ok (116, p + 1)) : decode c p = .ok (.ineg, 1) := by
  have e : decode c p = Except.bind (Except.bind ((Reader.u1 : Decoder Nat) c p) _) _ := rfl
  rw [e, h0]
  show (Except.ok (.ineg, p + 1 - p) : Except DecodeError (Instr × Nat)) = _
  rw [show p + 1 - p = 1 by omega]
theorem dk_117 (c : ByteArray) (p : Nat) (h0 : (Reader.u1 : Decoder Nat) c p = .ok (117, p + 1)) : decode c p = .ok (.lneg, 1) := by
  have e : decode c p = Except.bind (Except.bind ((Reader.u1 : Decoder Nat) c p) _) _ := rfl
  rw [e, h0]
  show (Except.ok (.lneg, p + 1 - p) : Except DecodeError (Instr × Nat)) = _
  rw [show p + 1 - p = 1 by omega]
theorem dk_120 (c : ByteArray) (p : Nat) (h0 : (Reader.u1 : Decoder Nat) c p = .ok (120, p + 1)) : decode c p = .ok (.ishl, 1) := by
  have e : decode c p = Except.bind (Except.bind ((Reader.u1 : Decoder Nat) c p) _) _ := rfl
  rw [e, h0]
  show (Except.ok (.ishl, p + 1 - p) : Except DecodeError (Instr × Nat)) = _
  rw [show p + 1 - p = 1 by omega]
theorem dk_122 (c : ByteArray) (p : Nat) (h0 : (Reader.u1 : Decoder Nat) c p = .ok (122, p + 1)) : decode c p = .ok (.ishr, 1) := by
  have e : decode c p = Except.bind (Except.bind ((Reader.u1 : Decoder Nat) c p) _) _ := rfl
  rw [e, h0]
  show (Except.ok (.ishr, p + 1 - p) : Except DecodeError (Instr × Nat)) = _
  rw [show p + 1 - p = 1 by omega]
theorem dk_124 (c : ByteArray) (p : Nat) (h0 : (Reader.u1 : Decoder Nat) c p = .ok (124, p + 1)) : decode c p = .ok (.iushr, 1) := by
  have e : decode c p = Except.bind (Except.bind ((Reader.u1 : Decoder Nat) c p) _) _ := rfl
  rw [e, h0]
  show (Except.ok (.iushr, p + 1 - p) : Except DecodeError (Instr × Nat)) = _
  rw [show p + 1 - p = 1 by omega]
theorem dk_126 (c : ByteArray) (p : Nat) (h0 : (Reader.u1 : Decoder Nat) c p = .ok (126, p + 1)) : decode c p = .ok (.iand, 1) := by
  have e : decode c p = Except.bind (Except.bind ((Reader.u1 : Decoder Nat) c p) _) _ := rfl
  rw [e, h0]
  show (Except.ok (.iand, p + 1 - p) : Except DecodeError (Instr × Nat)) = _
  rw [show p + 1 - p = 1 by omega]
theorem dk_128 (c : ByteArray) (p : Nat) (h0 : (Reader.u1 : Decoder Nat) c p = .ok (128, p + 1)) : decode c p = .ok (.ior, 1) := by
  have e : decode c p = Except.bind (Except.bind ((Reader.u1 : Decoder Nat) c p) _) _ := rfl
  rw [e, h0]
  show (Except.ok (.ior, p + 1 - p) : Except DecodeError (Instr × Nat)) = _
  rw [show p + 1 - p = 1 by omega]
theorem dk_130 (c : ByteArray) (p : Nat) (h0 : (Reader.u1 : Decoder Nat) c p = .ok (130, p + 1)) : decode c p = .ok (.ixor, 1) := by
  have e : decode c p = Except.bind (Except.bind ((Reader.u1 : Decoder Nat) c p) _) _ := rfl
  rw [e, h0]
  show (Except.ok (.ixor, p + 1 - p) : Except DecodeError (Instr × Nat)) = _
  rw [show p + 1 - p = 1 by omega]
theorem dk_132 (c : ByteArray) (p : Nat) (h0 : (Reader.u1 : Decoder Nat) c p = .ok (132, p + 1)) (b1 : Nat) (h1 : (Reader.u1 : Decoder Nat) c (p + 1) = .ok (b1, p + 1 + 1)) (b2 : Nat) (h2 : (Reader.u1 : Decoder Nat) c (p + 1 + 1) = .ok (b2, p + 1 + 1 + 1)) : decode c p = .ok (.iinc b1 (Reader.signed 8 b2), 3) := by
  have e : decode c p = Except.bind (Except.bind ((Reader.u1 : Decoder Nat) c p) _) _ := rfl
  rw [e, h0]
  show Except.bind (Except.bind ((Reader.u1 : Decoder Nat) c (p + 1)) _) _ = _
  rw [h1]
  show Except.bind (Except.bind (Except.bind ((Reader.u1 : Decoder Nat) c (p + 1 + 1)) _) _) _ = _
  rw [h2]
  show (Except.ok (.iinc b1 (Reader.signed 8 b2), p + 1 + 1 + 1 - p) : Except DecodeError (Instr × Nat)) = _
  rw [show p + 1 + 1 + 1 - p = 3 by omega]
theorem dk_133 (c : ByteArray) (p : Nat) (h0 : (Reader.u1 : Decoder Nat) c p = .ok (133, p + 1)) : decode c p = .ok (.i2l, 1) := by
  have e : decode c p = Except.bind (Except.bind ((Reader.u1 : Decoder Nat) c p) _) _ := rfl
  rw [e, h0]
  show (Except.ok (.i2l, p + 1 - p) : Except DecodeError (Instr × Nat)) = _
  rw [show p + 1 - p = 1 by omega]
theorem dk_136 (c : ByteArray) (p : Nat) (h0 : (Reader.u1 : Decoder Nat) c p = .ok (136, p + 1)) : decode c p = .ok (.l2i, 1) := by
  have e : decode c p = Except.bind (Except.bind ((Reader.u1 : Decoder Nat) c p) _) _ := rfl
  rw [e, h0]
  show (Except.ok (.l2i, p + 1 - p) : Except DecodeError (Instr × Nat)) = _
  rw [show p + 1 - p = 1 by omega]
theorem dk_145 (c : ByteArray) (p : Nat) (h0 : (Reader.u1 : Decoder Nat) c p = .ok (145, p + 1)) : decode c p = .ok (.i2b, 1) := by
  have e : decode c p = Except.bind (Except.bind ((Reader.u1 : Decoder Nat) c p) _) _ := rfl
  rw [e, h0]
  show (Except.ok (.i2b, p + 1 - p) : Except DecodeError (Instr × Nat)) = _
  rw [show p + 1 - p = 1 by omega]
theorem dk_148 (c : ByteArray) (p : Nat) (h0 : (Reader.u1 : Decoder Nat) c p = .ok (148, p + 1)) : decode c p = .ok (.lcmp, 1) := by
  have e : decode c p = Except.bind (Except.bind ((Reader.u1 : Decoder Nat) c p) _) _ := rfl
  rw [e, h0]
  show (Except.ok (.lcmp, p + 1 - p) : Except DecodeError (Instr × Nat)) = _
  rw [show p + 1 - p = 1 by omega]
theorem dk_153 (c : ByteArray) (p : Nat) (h0 : (Reader.u1 : Decoder Nat) c p = .ok (153, p + 1)) (b1 : Nat) (h1 : (Reader.u1 : Decoder Nat) c (p + 1) = .ok (b1, p + 1 + 1)) (b2 : Nat) (h2 : (Reader.u1 : Decoder Nat) c (p + 1 + 1) = .ok (b2, p + 1 + 1 + 1)) : decode c p = .ok (.ifCond .eq (Reader.signed 16 (b1 * 256 + b2)), 3) := by
  have e : decode c p = Except.bind (Except.bind ((Reader.u1 : Decoder Nat) c p) _) _ := rfl
  rw [e, h0]
  show Except.bind (Except.bind (Except.bind (Except.bind ((Reader.u1 : Decoder Nat) c (p + 1)) _) _) _) _ = _
  rw [h1]
  show Except.bind (Except.bind (Except.bind (Except.bind ((Reader.u1 : Decoder Nat) c (p + 1 + 1)) _) _) _) _ = _
  rw [h2]
  show (Except.ok (.ifCond .eq (Reader.signed 16 (b1 * 256 + b2)), p + 1 + 1 + 1 - p) : Except DecodeError (Instr × Nat)) = _
  rw [show p + 1 + 1 + 1 - p = 3 by omega]
theorem dk_154 (c : ByteArray) (p : Nat) (h0 : (Reader.u1 : Decoder Nat) c p = .ok (154, p + 1)) (b1 : Nat) (h1 : (Reader.u1 : Decoder Nat) c (p + 1) = .ok (b1, p + 1 + 1)) (b2 : Nat) (h2 : (Reader.u1 : Decoder Nat) c (p + 1 + 1) = .ok (b2, p + 1 + 1 + 1)) : decode c p = .ok (.ifCond .ne (Reader.signed 16 (b1 * 256 + b2)), 3) := by
  have e : decode c p = Except.bind (Except.bind ((Reader.u1 : Decoder Nat) c p) _) _ := rfl
  rw [e, h0]
  show Except.bind (Except.bind (Except.bind (Except.bind ((Reader.u1 : Decoder Nat) c (p + 1)) _) _) _) _ = _
  rw [h1]
  show Except.bind (Except.bind (Except.bind (Except.bind ((Reader.u1 : Decoder Nat) c (p + 1 + 1)) _) _) _) _ = _
  rw [h2]
  show (Except.ok (.ifCond .ne (Reader.signed 16 (b1 * 256 + b2)), p + 1 + 1 + 1 - p) : Except DecodeError (Instr × Nat)) = _
  rw [show p + 1 + 1 + 1 - p = 3 by omega]
theorem dk_155 (c : ByteArray) (p : Nat) (h0 : (Reader.u1 : Decoder Nat) c p = .ok (155, p + 1)) (b1 : Nat) (h1 : (Reader.u1 : Decoder Nat) c (p + 1) = .ok (b1, p + 1 + 1)) (b2 : Nat) (h2 : (Reader.u1 : Decoder Nat) c (p + 1 + 1) = .ok (b2, p + 1 + 1 + 1)) : decode c p = .ok (.ifCond .lt (Reader.signed 16 (b1 * 256 + b2)), 3) := by
  have e : decode c p = Except.bind (Except.bind ((Reader.u1 : Decoder Nat) c p) _) _ := rfl
  rw [e, h0]
  show Except.bind (Except.bind (Except.bind (Except.bind ((Reader.u1 : Decoder Nat) c (p + 1)) _) _) _) _ = _
  rw [h1]
  show Except.bind (Except.bind (Except.bind (Except.bind ((Reader.u1 : Decoder Nat) c (p + 1 + 1)) _) _) _) _ = _
  rw [h2]
  show (Except.ok (.ifCond .lt (Reader.signed 16 (b1 * 256 + b2)), p + 1 + 1 + 1 - p) : Except DecodeError (Instr × Nat)) = _
  rw [show p + 1 + 1 + 1 - p = 3 by omega]
theorem dk_156 (c : ByteArray) (p : Nat) (h0 : (Reader.u1 : Decoder Nat) c p = .ok (156, p + 1)) (b1 : Nat) (h1 : (Reader.u1 : Decoder Nat) c (p + 1) = .ok (b1, p + 1 + 1)) (b2 : Nat) (h2 : (Reader.u1 : Decoder Nat) c (p + 1 + 1) = .ok (b2, p + 1 + 1 + 1)) : decode c p = .ok (.ifCond .ge (Reader.signed 16 (b1 * 256 + b2)), 3) := by
  have e : decode c p = Except.bind (Except.bind ((Reader.u1 : Decoder Nat) c p) _) _ := rfl
  rw [e, h0]
  show Except.bind (Except.bind (Except.bind (Except.bind ((Reader.u1 : Decoder Nat) c (p + 1)) _) _) _) _ = _
  rw [h1]
  show Except.bind (Except.bind (Except.bind (Except.bind ((Reader.u1 : Decoder Nat) c (p + 1 + 1)) _) _) _) _ = _
  rw [h2]
  show (Except.ok (.ifCond .ge (Reader.signed 16 (b1 * 256 + b2)), p + 1 + 1 + 1 - p) : Except DecodeError (Instr × Nat)) = _
  rw [show p + 1 + 1 + 1 - p = 3 by omega]
theorem dk_157 (c : ByteArray) (p : Nat) (h0 : (Reader.u1 : Decoder Nat) c p = .ok (157, p + 1)) (b1 : Nat) (h1 : (Reader.u1 : Decoder Nat) c (p + 1) = .ok (b1, p + 1 + 1)) (b2 : Nat) (h2 : (Reader.u1 : Decoder Nat) c (p + 1 + 1) = .ok (b2, p + 1 + 1 + 1)) : decode c p = .ok (.ifCond .gt (Reader.signed 16 (b1 * 256 + b2)), 3) := by
  have e : decode c p = Except.bind (Except.bind ((Reader.u1 : Decoder Nat) c p) _) _ := rfl
  rw [e, h0]
  show Except.bind (Except.bind (Except.bind (Except.bind ((Reader.u1 : Decoder Nat) c (p + 1)) _) _) _) _ = _
  rw [h1]
  show Except.bind (Except.bind (Except.bind (Except.bind ((Reader.u1 : Decoder Nat) c (p + 1 + 1)) _) _) _) _ = _
  rw [h2]
  show (Except.ok (.ifCond .gt (Reader.signed 16 (b1 * 256 + b2)), p + 1 + 1 + 1 - p) : Except DecodeError (Instr × Nat)) = _
  rw [show p + 1 + 1 + 1 - p = 3 by omega]
theorem dk_158 (c : ByteArray) (p : Nat) (h0 : (Reader.u1 : Decoder Nat) c p = .ok (158, p + 1)) (b1 : Nat) (h1 : (Reader.u1 : Decoder Nat) c (p + 1) = .ok (b1, p + 1 + 1)) (b2 : Nat) (h2 : (Reader.u1 : Decoder Nat) c (p + 1 + 1) = .ok (b2, p + 1 + 1 + 1)) : decode c p = .ok (.ifCond .le (Reader.signed 16 (b1 * 256 + b2)), 3) := by
  have e : decode c p = Except.bind (Except.bind ((Reader.u1 : Decoder Nat) c p) _) _ := rfl
  rw [e, h0]
  show Except.bind (Except.bind (Except.bind (Except.bind ((Reader.u1 : Decoder Nat) c (p + 1)) _) _) _) _ = _
  rw [h1]
  show Except.bind (Except.bind (Except.bind (Except.bind ((Reader.u1 : Decoder Nat) c (p + 1 + 1)) _) _) _) _ = _
  rw [h2]
  show (Except.ok (.ifCond .le (Reader.signed 16 (b1 * 256 + b2)), p + 1 + 1 + 1 - p) : Except DecodeError (Instr × Nat)) = _
  rw [show p + 1 + 1 + 1 - p = 3 by omega]
theorem dk_159 (c : ByteArray) (p : Nat) (h0 : (Reader.u1 : Decoder Nat) c p = .ok (159, p + 1)) (b1 : Nat) (h1 : (Reader.u1 : Decoder Nat) c (p + 1) = .ok (b1, p + 1 + 1)) (b2 : Nat) (h2 : (Reader.u1 : Decoder Nat) c (p + 1 + 1) = .ok (b2, p + 1 + 1 + 1)) : decode c p = .ok (.if_icmp .eq (Reader.signed 16 (b1 * 256 + b2)), 3) := by
  have e : decode c p = Except.bind (Except.bind ((Reader.u1 : Decoder Nat) c p) _) _ := rfl
  rw [e, h0]
  show Except.bind (Except.bind (Except.bind (Except.bind ((Reader.u1 : Decoder Nat) c (p + 1)) _) _) _) _ = _
  rw [h1]
  show Except.bind (Except.bind (Except.bind (Except.bind ((Reader.u1 : Decoder Nat) c (p + 1 + 1)) _) _) _) _ = _
  rw [h2]
  show (Except.ok (.if_icmp .eq (Reader.signed 16 (b1 * 256 + b2)), p + 1 + 1 + 1 - p) : Except DecodeError (Instr × Nat)) = _
  rw [show p + 1 + 1 + 1 - p = 3 by omega]
theorem dk_160 (c : ByteArray) (p : Nat) (h0 : (Reader.u1 : Decoder Nat) c p = .ok (160, p + 1)) (b1 : Nat) (h1 : (Reader.u1 : Decoder Nat) c (p + 1) = .ok (b1, p + 1 + 1)) (b2 : Nat) (h2 : (Reader.u1 : Decoder Nat) c (p + 1 + 1) = .ok (b2, p + 1 + 1 + 1)) : decode c p = .ok (.if_icmp .ne (Reader.signed 16 (b1 * 256 + b2)), 3) := by
  have e : decode c p = Except.bind (Except.bind ((Reader.u1 : Decoder Nat) c p) _) _ := rfl
  rw [e, h0]
  show Except.bind (Except.bind (Except.bind (Except.bind ((Reader.u1 : Decoder Nat) c (p + 1)) _) _) _) _ = _
  rw [h1]
  show Except.bind (Except.bind (Except.bind (Except.bind ((Reader.u1 : Decoder Nat) c (p + 1 + 1)) _) _) _) _ = _
  rw [h2]
  show (Except.ok (.if_icmp .ne (Reader.signed 16 (b1 * 256 + b2)), p + 1 + 1 + 1 - p) : Except DecodeError (Instr × Nat)) = _
  rw [show p + 1 + 1 + 1 - p = 3 by omega]
theorem dk_161 (c : ByteArray) (p : Nat) (h0 : (Reader.u1 : Decoder Nat) c p = .ok (161, p + 1)) (b1 : Nat) (h1 : (Reader.u1 : Decoder Nat) c (p + 1) = .ok (b1, p + 1 + 1)) (b2 : Nat) (h2 : (Reader.u1 : Decoder Nat) c (p + 1 + 1) = .ok (b2, p + 1 + 1 + 1)) : decode c p = .ok (.if_icmp .lt (Reader.signed 16 (b1 * 256 + b2)), 3) := by
  have e : decode c p = Except.bind (Except.bind ((Reader.u1 : Decoder Nat) c p) _) _ := rfl
  rw [e, h0]
  show Except.bind (Except.bind (Except.bind (Except.bind ((Reader.u1 : Decoder Nat) c (p + 1)) _) _) _) _ = _
  rw [h1]
  show Except.bind (Except.bind (Except.bind (Except.bind ((Reader.u1 : Decoder Nat) c (p + 1 + 1)) _) _) _) _ = _
  rw [h2]
  show (Except.ok (.if_icmp .lt (Reader.signed 16 (b1 * 256 + b2)), p + 1 + 1 + 1 - p) : Except DecodeError (Instr × Nat)) = _
  rw [show p + 1 + 1 + 1 - p = 3 by omega]
theorem dk_162 (c : ByteArray) (p : Nat) (h0 : (Reader.u1 : Decoder Nat) c p = .ok (162, p + 1)) (b1 : Nat) (h1 : (Reader.u1 : Decoder Nat) c (p + 1) = .ok (b1, p + 1 + 1)) (b2 : Nat) (h2 : (Reader.u1 : Decoder Nat) c (p + 1 + 1) = .ok (b2, p + 1 + 1 + 1)) : decode c p = .ok (.if_icmp .ge (Reader.signed 16 (b1 * 256 + b2)), 3) := by
  have e : decode c p = Except.bind (Except.bind ((Reader.u1 : Decoder Nat) c p) _) _ := rfl
  rw [e, h0]
  show Except.bind (Except.bind (Except.bind (Except.bind ((Reader.u1 : Decoder Nat) c (p + 1)) _) _) _) _ = _
  rw [h1]
  show Except.bind (Except.bind (Except.bind (Except.bind ((Reader.u1 : Decoder Nat) c (p + 1 + 1)) _) _) _) _ = _
  rw [h2]
  show (Except.ok (.if_icmp .ge (Reader.signed 16 (b1 * 256 + b2)), p + 1 + 1 + 1 - p) : Except DecodeError (Instr × Nat)) = _
  rw [show p + 1 + 1 + 1 - p = 3 by omega]
theorem dk_163 (c : ByteArray) (p : Nat) (h0 : (Reader.u1 : Decoder Nat) c p = .ok (163, p + 1)) (b1 : Nat) (h1 : (Reader.u1 : Decoder Nat) c (p + 1) = .ok (b1, p + 1 + 1)) (b2 : Nat) (h2 : (Reader.u1 : Decoder Nat) c (p + 1 + 1) = .ok (b2, p + 1 + 1 + 1)) : decode c p = .ok (.if_icmp .gt (Reader.signed 16 (b1 * 256 + b2)), 3) := by
  have e : decode c p = Except.bind (Except.bind ((Reader.u1 : Decoder Nat) c p) _) _ := rfl
  rw [e, h0]
  show Except.bind (Except.bind (Except.bind (Except.bind ((Reader.u1 : Decoder Nat) c (p + 1)) _) _) _) _ = _
  rw [h1]
  show Except.bind (Except.bind (Except.bind (Except.bind ((Reader.u1 : Decoder Nat) c (p + 1 + 1)) _) _) _) _ = _
  rw [h2]
  show (Except.ok (.if_icmp .gt (Reader.signed 16 (b1 * 256 + b2)), p + 1 + 1 + 1 - p) : Except DecodeError (Instr × Nat)) = _
  rw [show p + 1 + 1 + 1 - p = 3 by omega]
theorem dk_164 (c : ByteArray) (p : Nat) (h0 : (Reader.u1 : Decoder Nat) c p = .ok (164, p + 1)) (b1 : Nat) (h1 : (Reader.u1 : Decoder Nat) c (p + 1) = .ok (b1, p + 1 + 1)) (b2 : Nat) (h2 : (Reader.u1 : Decoder Nat) c (p + 1 + 1) = .ok (b2, p + 1 + 1 + 1)) : decode c p = .ok (.if_icmp .le (Reader.signed 16 (b1 * 256 + b2)), 3) := by
  have e : decode c p = Except.bind (Except.bind ((Reader.u1 : Decoder Nat) c p) _) _ := rfl
  rw [e, h0]
  show Except.bind (Except.bind (Except.bind (Except.bind ((Reader.u1 : Decoder Nat) c (p + 1)) _) _) _) _ = _
  rw [h1]
  show Except.bind (Except.bind (Except.bind (Except.bind ((Reader.u1 : Decoder Nat) c (p + 1 + 1)) _) _) _) _ = _
  rw [h2]
  show (Except.ok (.if_icmp .le (Reader.signed 16 (b1 * 256 + b2)), p + 1 + 1 + 1 - p) : Except DecodeError (Instr × Nat)) = _
  rw [show p + 1 + 1 + 1 - p = 3 by omega]
theorem dk_167 (c : ByteArray) (p : Nat) (h0 : (Reader.u1 : Decoder Nat) c p = .ok (167, p + 1)) (b1 : Nat) (h1 : (Reader.u1 : Decoder Nat) c (p + 1) = .ok (b1, p + 1 + 1)) (b2 : Nat) (h2 : (Reader.u1 : Decoder Nat) c (p + 1 + 1) = .ok (b2, p + 1 + 1 + 1)) : decode c p = .ok (.goto (Reader.signed 16 (b1 * 256 + b2)), 3) := by
  have e : decode c p = Except.bind (Except.bind ((Reader.u1 : Decoder Nat) c p) _) _ := rfl
  rw [e, h0]
  show Except.bind (Except.bind (Except.bind (Except.bind ((Reader.u1 : Decoder Nat) c (p + 1)) _) _) _) _ = _
  rw [h1]
  show Except.bind (Except.bind (Except.bind (Except.bind ((Reader.u1 : Decoder Nat) c (p + 1 + 1)) _) _) _) _ = _
  rw [h2]
  show (Except.ok (.goto (Reader.signed 16 (b1 * 256 + b2)), p + 1 + 1 + 1 - p) : Except DecodeError (Instr × Nat)) = _
  rw [show p + 1 + 1 + 1 - p = 3 by omega]
theorem dk_172 (c : ByteArray) (p : Nat) (h0 : (Reader.u1 : Decoder Nat) c p = .ok (172, p + 1)) : decode c p = .ok (.ireturn, 1) := by
  have e : decode c p = Except.bind (Except.bind ((Reader.u1 : Decoder Nat) c p) _) _ := rfl
  rw [e, h0]
  show (Except.ok (.ireturn, p + 1 - p) : Except DecodeError (Instr × Nat)) = _
  rw [show p + 1 - p = 1 by omega]
theorem dk_173 (c : ByteArray) (p : Nat) (h0 : (Reader.u1 : Decoder Nat) c p = .ok (173, p + 1)) : decode c p = .ok (.lreturn, 1) := by
  have e : decode c p = Except.bind (Except.bind ((Reader.u1 : Decoder Nat) c p) _) _ := rfl
  rw [e, h0]
  show (Except.ok (.lreturn, p + 1 - p) : Except DecodeError (Instr × Nat)) = _
  rw [show p + 1 - p = 1 by omega]
theorem dk_177 (c : ByteArray) (p : Nat) (h0 : (Reader.u1 : Decoder Nat) c p = .ok (177, p + 1)) : decode c p = .ok (.return_, 1) := by
  have e : decode c p = Except.bind (Except.bind ((Reader.u1 : Decoder Nat) c p) _) _ := rfl
  rw [e, h0]
  show (Except.ok (.return_, p + 1 - p) : Except DecodeError (Instr × Nat)) = _
  rw [show p + 1 - p = 1 by omega]
theorem dk_178 (c : ByteArray) (p : Nat) (h0 : (Reader.u1 : Decoder Nat) c p = .ok (178, p + 1)) (b1 : Nat) (h1 : (Reader.u1 : Decoder Nat) c (p + 1) = .ok (b1, p + 1 + 1)) (b2 : Nat) (h2 : (Reader.u1 : Decoder Nat) c (p + 1 + 1) = .ok (b2, p + 1 + 1 + 1)) : decode c p = .ok (.getstatic (b1 * 256 + b2), 3) := by
  have e : decode c p = Except.bind (Except.bind ((Reader.u1 : Decoder Nat) c p) _) _ := rfl
  rw [e, h0]
  show Except.bind (Except.bind (Except.bind ((Reader.u1 : Decoder Nat) c (p + 1)) _) _) _ = _
  rw [h1]
  show Except.bind (Except.bind (Except.bind ((Reader.u1 : Decoder Nat) c (p + 1 + 1)) _) _) _ = _
  rw [h2]
  show (Except.ok (.getstatic (b1 * 256 + b2), p + 1 + 1 + 1 - p) : Except DecodeError (Instr × Nat)) = _
  rw [show p + 1 + 1 + 1 - p = 3 by omega]
theorem dk_180 (c : ByteArray) (p : Nat) (h0 : (Reader.u1 : Decoder Nat) c p = .ok (180, p + 1)) (b1 : Nat) (h1 : (Reader.u1 : Decoder Nat) c (p + 1) = .ok (b1, p + 1 + 1)) (b2 : Nat) (h2 : (Reader.u1 : Decoder Nat) c (p + 1 + 1) = .ok (b2, p + 1 + 1 + 1)) : decode c p = .ok (.getfield (b1 * 256 + b2), 3) := by
  have e : decode c p = Except.bind (Except.bind ((Reader.u1 : Decoder Nat) c p) _) _ := rfl
  rw [e, h0]
  show Except.bind (Except.bind (Except.bind ((Reader.u1 : Decoder Nat) c (p + 1)) _) _) _ = _
  rw [h1]
  show Except.bind (Except.bind (Except.bind ((Reader.u1 : Decoder Nat) c (p + 1 + 1)) _) _) _ = _
  rw [h2]
  show (Except.ok (.getfield (b1 * 256 + b2), p + 1 + 1 + 1 - p) : Except DecodeError (Instr × Nat)) = _
  rw [show p + 1 + 1 + 1 - p = 3 by omega]
theorem dk_181 (c : ByteArray) (p : Nat) (h0 : (Reader.u1 : Decoder Nat) c p = .ok (181, p + 1)) (b1 : Nat) (h1 : (Reader.u1 : Decoder Nat) c (p + 1) = .ok (b1, p + 1 + 1)) (b2 : Nat) (h2 : (Reader.u1 : Decoder Nat) c (p + 1 + 1) = .ok (b2, p + 1 + 1 + 1)) : decode c p = .ok (.putfield (b1 * 256 + b2), 3) := by
  have e : decode c p = Except.bind (Except.bind ((Reader.u1 : Decoder Nat) c p) _) _ := rfl
  rw [e, h0]
  show Except.bind (Except.bind (Except.bind ((Reader.u1 : Decoder Nat) c (p + 1)) _) _) _ = _
  rw [h1]
  show Except.bind (Except.bind (Except.bind ((Reader.u1 : Decoder Nat) c (p + 1 + 1)) _) _) _ = _
  rw [h2]
  show (Except.ok (.putfield (b1 * 256 + b2), p + 1 + 1 + 1 - p) : Except DecodeError (Instr × Nat)) = _
  rw [show p + 1 + 1 + 1 - p = 3 by omega]
theorem dk_182 (c : ByteArray) (p : Nat) (h0 : (Reader.u1 : Decoder Nat) c p = .ok (182, p + 1)) (b1 : Nat) (h1 : (Reader.u1 : Decoder Nat) c (p + 1) = .ok (b1, p + 1 + 1)) (b2 : Nat) (h2 : (Reader.u1 : Decoder Nat) c (p + 1 + 1) = .ok (b2, p + 1 + 1 + 1)) : decode c p = .ok (.invokevirtual (b1 * 256 + b2), 3) := by
  have e : decode c p = Except.bind (Except.bind ((Reader.u1 : Decoder Nat) c p) _) _ := rfl
  rw [e, h0]
  show Except.bind (Except.bind (Except.bind ((Reader.u1 : Decoder Nat) c (p + 1)) _) _) _ = _
  rw [h1]
  show Except.bind (Except.bind (Except.bind ((Reader.u1 : Decoder Nat) c (p + 1 + 1)) _) _) _ = _
  rw [h2]
  show (Except.ok (.invokevirtual (b1 * 256 + b2), p + 1 + 1 + 1 - p) : Except DecodeError (Instr × Nat)) = _
  rw [show p + 1 + 1 + 1 - p = 3 by omega]
theorem dk_183 (c : ByteArray) (p : Nat) (h0 : (Reader.u1 : Decoder Nat) c p = .ok (183, p + 1)) (b1 : Nat) (h1 : (Reader.u1 : Decoder Nat) c (p + 1) = .ok (b1, p + 1 + 1)) (b2 : Nat) (h2 : (Reader.u1 : Decoder Nat) c (p + 1 + 1) = .ok (b2, p + 1 + 1 + 1)) : decode c p = .ok (.invokespecial (b1 * 256 + b2), 3) := by
  have e : decode c p = Except.bind (Except.bind ((Reader.u1 : Decoder Nat) c p) _) _ := rfl
  rw [e, h0]
  show Except.bind (Except.bind (Except.bind ((Reader.u1 : Decoder Nat) c (p + 1)) _) _) _ = _
  rw [h1]
  show Except.bind (Except.bind (Except.bind ((Reader.u1 : Decoder Nat) c (p + 1 + 1)) _) _) _ = _
  rw [h2]
  show (Except.ok (.invokespecial (b1 * 256 + b2), p + 1 + 1 + 1 - p) : Except DecodeError (Instr × Nat)) = _
  rw [show p + 1 + 1 + 1 - p = 3 by omega]
theorem dk_184 (c : ByteArray) (p : Nat) (h0 : (Reader.u1 : Decoder Nat) c p = .ok (184, p + 1)) (b1 : Nat) (h1 : (Reader.u1 : Decoder Nat) c (p + 1) = .ok (b1, p + 1 + 1)) (b2 : Nat) (h2 : (Reader.u1 : Decoder Nat) c (p + 1 + 1) = .ok (b2, p + 1 + 1 + 1)) : decode c p = .ok (.invokestatic (b1 * 256 + b2), 3) := by
  have e : decode c p = Except.bind (Except.bind ((Reader.u1 : Decoder Nat) c p) _) _ := rfl
  rw [e, h0]
  show Except.bind (Except.bind (Except.bind ((Reader.u1 : Decoder Nat) c (p + 1)) _) _) _ = _
  rw [h1]
  show Except.bind (Except.bind (Except.bind ((Reader.u1 : Decoder Nat) c (p + 1 + 1)) _) _) _ = _
  rw [h2]
  show (Except.ok (.invokestatic (b1 * 256 + b2), p + 1 + 1 + 1 - p) : Except DecodeError (Instr × Nat)) = _
  rw [show p + 1 + 1 + 1 - p = 3 by omega]
theorem dk_187 (c : ByteArray) (p : Nat) (h0 : (Reader.u1 : Decoder Nat) c p = .ok (187, p + 1)) (b1 : Nat) (h1 : (Reader.u1 : Decoder Nat) c (p + 1) = .ok (b1, p + 1 + 1)) (b2 : Nat) (h2 : (Reader.u1 : Decoder Nat) c (p + 1 + 1) = .ok (b2, p + 1 + 1 + 1)) : decode c p = .ok (.new (b1 * 256 + b2), 3) := by
  have e : decode c p = Except.bind (Except.bind ((Reader.u1 : Decoder Nat) c p) _) _ := rfl
  rw [e, h0]
  show Except.bind (Except.bind (Except.bind ((Reader.u1 : Decoder Nat) c (p + 1)) _) _) _ = _
  rw [h1]
  show Except.bind (Except.bind (Except.bind ((Reader.u1 : Decoder Nat) c (p + 1 + 1)) _) _) _ = _
  rw [h2]
  show (Except.ok (.new (b1 * 256 + b2), p + 1 + 1 + 1 - p) : Except DecodeError (Instr × Nat)) = _
  rw [show p + 1 + 1 + 1 - p = 3 by omega]
theorem dk_189 (c : ByteArray) (p : Nat) (h0 : (Reader.u1 : Decoder Nat) c p = .ok (189, p + 1)) (b1 : Nat) (h1 : (Reader.u1 : Decoder Nat) c (p + 1) = .ok (b1, p + 1 + 1)) (b2 : Nat) (h2 : (Reader.u1 : Decoder Nat) c (p + 1 + 1) = .ok (b2, p + 1 + 1 + 1)) : decode c p = .ok (.anewarray (b1 * 256 + b2), 3) := by
  have e : decode c p = Except.bind (Except.bind ((Reader.u1 : Decoder Nat) c p) _) _ := rfl
  rw [e, h0]
  show Except.bind (Except.bind (Except.bind ((Reader.u1 : Decoder Nat) c (p + 1)) _) _) _ = _
  rw [h1]
  show Except.bind (Except.bind (Except.bind ((Reader.u1 : Decoder Nat) c (p + 1 + 1)) _) _) _ = _
  rw [h2]
  show (Except.ok (.anewarray (b1 * 256 + b2), p + 1 + 1 + 1 - p) : Except DecodeError (Instr × Nat)) = _
  rw [show p + 1 + 1 + 1 - p = 3 by omega]
theorem dk_190 (c : ByteArray) (p : Nat) (h0 : (Reader.u1 : Decoder Nat) c p = .ok (190, p + 1)) : decode c p = .ok (.arraylength, 1) := by
  have e : decode c p = Except.bind (Except.bind ((Reader.u1 : Decoder Nat) c p) _) _ := rfl
  rw [e, h0]
  show (Except.ok (.arraylength, p + 1 - p) : Except DecodeError (Instr × Nat)) = _
  rw [show p + 1 - p = 1 by omega]
theorem kd_b {c : ByteArray} {p : Nat} {b : UInt8} {r : List UInt8} (h : c.data.toList.drop p = b :: r) : (Reader.u1 : Decoder Nat) c p = .ok (b.toNat, p + 1) ∧ c.data.toList.drop (p + 1) = r := by
  constructor
  · have e1 : (c.data.toList.drop p)[0]? = some b := by rw [h]; rfl
    rw [List.getElem?_drop, Nat.add_zero, Array.getElem?_toList] at e1
    obtain ⟨hp2, e2⟩ := Array.getElem?_eq_some_iff.mp e1
    have e3 : (Reader.u1 : Decoder Nat) c p = if h : p < c.size then Except.ok ((c[p]'h).toNat, p + 1) else Except.error (HasTruncated.truncated p) := by
      show (if h : p < c.size then _ else _ : Decoder Nat) c p = _
      by_cases q : p < c.size
      · rw [dif_pos q, dif_pos q]; rfl
      · rw [dif_neg q, dif_neg q]; rfl
    have q : p < c.size := hp2
    rw [e3, dif_pos q]
    have e4 : c[p]'q = b := e2
    rw [e4]
  · have e := congrArg (List.drop 1) h
    rw [List.drop_drop] at e
    exact e
def kd_0 (o n : Nat) : List UInt8 → Option (List UInt8)
  | b :: r => bif Nat.beq b.toNat o && Nat.beq n 1 then some r else none
  | [] => none
def kd_1 (o k n : Nat) : List UInt8 → Option (List UInt8)
  | b :: x :: r => bif Nat.beq b.toNat o && Nat.beq x.toNat k && Nat.beq n 2 then some r else none
  | _ => none
def kd_s1 (o : Nat) (k : Int) (n : Nat) : List UInt8 → Option (List UInt8)
  | b :: x :: r => bif Nat.beq b.toNat o && decide (Reader.signed 8 x.toNat = k) && Nat.beq n 2 then some r else none
  | _ => none
def kd_2 (o k n : Nat) : List UInt8 → Option (List UInt8)
  | b :: x :: y :: r => bif Nat.beq b.toNat o && Nat.beq (x.toNat * 256 + y.toNat) k && Nat.beq n 3 then some r else none
  | _ => none
def kd_s2 (o : Nat) (k : Int) (n : Nat) : List UInt8 → Option (List UInt8)
  | b :: x :: y :: r => bif Nat.beq b.toNat o && decide (Reader.signed 16 (x.toNat * 256 + y.toNat) = k) && Nat.beq n 3 then some r else none
  | _ => none
def kd_ii (k : Nat) (v : Int) (n : Nat) : List UInt8 → Option (List UInt8)
  | b :: x :: y :: r => bif Nat.beq b.toNat 132 && Nat.beq x.toNat k && decide (Reader.signed 8 y.toNat = v) && Nat.beq n 3 then some r else none
  | _ => none
def kd_ic (i : Int) (n : Nat) : List UInt8 → Option (List UInt8)
  | b :: r => bif Nat.ble 2 b.toNat && Nat.ble b.toNat 8 && decide ((b.toNat : Int) - 3 = i) && Nat.beq n 1 then some r else none
  | [] => none
def kd_cc : ClassFile.Cond → Nat
  | .eq => 0 | .ne => 1 | .lt => 2 | .ge => 3 | .gt => 4 | .le => 5
theorem kd_if {b : Bool} {r s : List UInt8} (h : (bif b then some r else none) = some s) : b = true ∧ r = s := by
  cases b with
  | false => cases h
  | true => exact ⟨rfl, Option.some.inj h⟩
theorem kd_0_ok {c : ByteArray} {p o n : Nat} {L r : List UInt8} {i : Instr} (hL : c.data.toList.drop p = L) (h : kd_0 o n L = some r)
    (f : (Reader.u1 : Decoder Nat) c p = .ok (o, p + 1) → decode c p = .ok (i, 1)) : decode c p = .ok (i, n) ∧ c.data.toList.drop (p + n) = r := by
  cases L with
  | nil => cases h
  | cons b t =>
    obtain ⟨e, e2⟩ := kd_if h
    rw [Bool.and_eq_true] at e
    obtain ⟨g1, g2⟩ := kd_b hL
    have e1 := Nat.eq_of_beq_eq_true e.1; have e3 := Nat.eq_of_beq_eq_true e.2
    subst e1; subst e3; subst e2
    exact ⟨f g1, g2⟩
theorem kd_1_ok {c : ByteArray} {p o k n : Nat} {L r : List UInt8} {i : Instr} (hL : c.data.toList.drop p = L) (h : kd_1 o k n L = some r)
    (f : (Reader.u1 : Decoder Nat) c p = .ok (o, p + 1) → (Reader.u1 : Decoder Nat) c (p + 1) = .ok (k, p + 1 + 1) → decode c p = .ok (i, 2)) : decode c p = .ok (i, n) ∧ c.data.toList.drop (p + n) = r := by
  match L, hL, h with
  | [], _, h => cases h
  | [_], _, h => cases h
  | b :: x :: t, hL, h =>
    obtain ⟨e, e2⟩ := kd_if h
    simp only [Bool.and_eq_true] at e
    obtain ⟨⟨a1, a2⟩, a3⟩ := e
    obtain ⟨g1, g2⟩ := kd_b hL
    obtain ⟨g3, g4⟩ := kd_b g2
    have e1 := Nat.eq_of_beq_eq_true a1; have e3 := Nat.eq_of_beq_eq_true a2; have e4 := Nat.eq_of_beq_eq_true a3
    subst e1; subst e3; subst e4; subst e2
    exact ⟨f g1 g3, g4⟩
theorem kd_s1_ok {c : ByteArray} {p o n : Nat} {k : Int} {L r : List UInt8} {i : Instr} (hL : c.data.toList.drop p = L) (h : kd_s1 o k n L = some r)
    (f : (Reader.u1 : Decoder Nat) c p = .ok (o, p + 1) → ∀ x, (Reader.u1 : Decoder Nat) c (p + 1) = .ok (x, p + 1 + 1) → Reader.signed 8 x = k → decode c p = .ok (i, 2)) : decode c p = .ok (i, n) ∧ c.data.toList.drop (p + n) = r := by
  match L, hL, h with
  | [], _, h => cases h
  | [_], _, h => cases h
  | b :: x :: t, hL, h =>
    obtain ⟨e, e2⟩ := kd_if h
    simp only [Bool.and_eq_true] at e
    obtain ⟨⟨a1, a2⟩, a3⟩ := e
    obtain ⟨g1, g2⟩ := kd_b hL
    obtain ⟨g3, g4⟩ := kd_b g2
    have e1 := Nat.eq_of_beq_eq_true a1; have e3 := of_decide_eq_true a2; have e4 := Nat.eq_of_beq_eq_true a3
    subst e1; subst e4; subst e2
    exact ⟨f g1 _ g3 e3, g4⟩
theorem kd_2_ok {c : ByteArray} {p o k n : Nat} {L r : List UInt8} {i : Instr} (hL : c.data.toList.drop p = L) (h : kd_2 o k n L = some r)
    (f : (Reader.u1 : Decoder Nat) c p = .ok (o, p + 1) → ∀ x, (Reader.u1 : Decoder Nat) c (p + 1) = .ok (x, p + 1 + 1) → ∀ y, (Reader.u1 : Decoder Nat) c (p + 1 + 1) = .ok (y, p + 1 + 1 + 1) → x * 256 + y = k → decode c p = .ok (i, 3)) : decode c p = .ok (i, n) ∧ c.data.toList.drop (p + n) = r := by
  match L, hL, h with
  | [], _, h => cases h
  | [_], _, h => cases h
  | [_, _], _, h => cases h
  | b :: x :: y :: t, hL, h =>
    obtain ⟨e, e2⟩ := kd_if h
    simp only [Bool.and_eq_true] at e
    obtain ⟨⟨a1, a2⟩, a3⟩ := e
    obtain ⟨g1, g2⟩ := kd_b hL
    obtain ⟨g3, g4⟩ := kd_b g2
    obtain ⟨g5, g6⟩ := kd_b g4
    have e1 := Nat.eq_of_beq_eq_true a1; have e3 := Nat.eq_of_beq_eq_true a2; have e4 := Nat.eq_of_beq_eq_true a3
    subst e1; subst e4; subst e2
    exact ⟨f g1 _ g3 _ g5 e3, g6⟩
theorem kd_s2_ok {c : ByteArray} {p o n : Nat} {k : Int} {L r : List UInt8} {i : Instr} (hL : c.data.toList.drop p = L) (h : kd_s2 o k n L = some r)
    (f : (Reader.u1 : Decoder Nat) c p = .ok (o, p + 1) → ∀ x, (Reader.u1 : Decoder Nat) c (p + 1) = .ok (x, p + 1 + 1) → ∀ y, (Reader.u1 : Decoder Nat) c (p + 1 + 1) = .ok (y, p + 1 + 1 + 1) → Reader.signed 16 (x * 256 + y) = k → decode c p = .ok (i, 3)) : decode c p = .ok (i, n) ∧ c.data.toList.drop (p + n) = r := by
  match L, hL, h with
  | [], _, h => cases h
  | [_], _, h => cases h
  | [_, _], _, h => cases h
  | b :: x :: y :: t, hL, h =>
    obtain ⟨e, e2⟩ := kd_if h
    simp only [Bool.and_eq_true] at e
    obtain ⟨⟨a1, a2⟩, a3⟩ := e
    obtain ⟨g1, g2⟩ := kd_b hL
    obtain ⟨g3, g4⟩ := kd_b g2
    obtain ⟨g5, g6⟩ := kd_b g4
    have e1 := Nat.eq_of_beq_eq_true a1; have e3 := of_decide_eq_true a2; have e4 := Nat.eq_of_beq_eq_true a3
    subst e1; subst e4; subst e2
    exact ⟨f g1 _ g3 _ g5 e3, g6⟩
theorem kd_ii_ok {c : ByteArray} {p k n : Nat} {v : Int} {L r : List UInt8} (hL : c.data.toList.drop p = L) (h : kd_ii k v n L = some r) : decode c p = .ok (.iinc k v, n) ∧ c.data.toList.drop (p + n) = r := by
  match L, hL, h with
  | [], _, h => cases h
  | [_], _, h => cases h
  | [_, _], _, h => cases h
  | b :: x :: y :: t, hL, h =>
    obtain ⟨e, e2⟩ := kd_if h
    simp only [Bool.and_eq_true] at e
    obtain ⟨⟨⟨a1, a2⟩, a5⟩, a3⟩ := e
    obtain ⟨g1, g2⟩ := kd_b hL
    obtain ⟨g3, g4⟩ := kd_b g2
    obtain ⟨g5, g6⟩ := kd_b g4
    have e1 := Nat.eq_of_beq_eq_true a1; have e3 := Nat.eq_of_beq_eq_true a2; have e4 := Nat.eq_of_beq_eq_true a3; have e5 := of_decide_eq_true a5
    rw [e1] at g1; subst e3; subst e4; subst e2; subst e5
    exact ⟨dk_132 c p g1 _ g3 _ g5, g6⟩
theorem kd_ic_ok {c : ByteArray} {p n : Nat} {i : Int} {L r : List UInt8} (hL : c.data.toList.drop p = L) (h : kd_ic i n L = some r) : decode c p = .ok (.iconst i, n) ∧ c.data.toList.drop (p + n) = r := by
  match L, hL, h with
  | [], _, h => cases h
  | b :: t, hL, h =>
    obtain ⟨e, e2⟩ := kd_if h
    simp only [Bool.and_eq_true] at e
    obtain ⟨⟨⟨a1, a2⟩, a5⟩, a3⟩ := e
    obtain ⟨g1, g2⟩ := kd_b hL
    have e1 := Nat.le_of_ble_eq_true a1; have e3 := Nat.le_of_ble_eq_true a2; have e4 := Nat.eq_of_beq_eq_true a3; have e5 := of_decide_eq_true a5
    subst e4; subst e2; subst e5
    refine ⟨?_, g2⟩
    generalize b.toNat = v at *
    have hv : v = 2 ∨ v = 3 ∨ v = 4 ∨ v = 5 ∨ v = 6 ∨ v = 7 ∨ v = 8 := by omega
    rcases hv with e | e | e | e | e | e | e <;> subst e
    · exact dk_2 c p g1
    · exact dk_3 c p g1
    · exact dk_4 c p g1
    · exact dk_5 c p g1
    · exact dk_6 c p g1
    · exact dk_7 c p g1
    · exact dk_8 c p g1
def kd_one (i : Instr) (n : Nat) (L : List UInt8) : Option (List UInt8) :=
  match i with
  | .aload k => kd_1 25 k n L
  | .astore k => kd_1 58 k n L
  | .iload k => kd_1 21 k n L
  | .istore k => kd_1 54 k n L
  | .ldc k => kd_1 18 k n L
  | .lload k => kd_1 22 k n L
  | .lstore k => kd_1 55 k n L
  | .anewarray k => kd_2 189 k n L
  | .getfield k => kd_2 180 k n L
  | .getstatic k => kd_2 178 k n L
  | .invokespecial k => kd_2 183 k n L
  | .invokestatic k => kd_2 184 k n L
  | .invokevirtual k => kd_2 182 k n L
  | .ldc2_w k => kd_2 20 k n L
  | .ldc_w k => kd_2 19 k n L
  | .new k => kd_2 187 k n L
  | .putfield k => kd_2 181 k n L
  | .iconst k => kd_ic k n L
  | .aload_n k => kd_0 (42 + k.val) n L
  | .astore_n k => kd_0 (75 + k.val) n L
  | .iload_n k => kd_0 (26 + k.val) n L
  | .istore_n k => kd_0 (59 + k.val) n L
  | .lconst k => kd_0 (9 + k.val) n L
  | .lload_n k => kd_0 (30 + k.val) n L
  | .lstore_n k => kd_0 (63 + k.val) n L
  | .iinc k v => kd_ii k v n L
  | .ifCond k v => kd_s2 (153 + kd_cc k) v n L
  | .if_icmp k v => kd_s2 (159 + kd_cc k) v n L
  | .aaload => kd_0 50 n L
  | .aastore => kd_0 83 n L
  | .arraylength => kd_0 190 n L
  | .dup => kd_0 89 n L
  | .dup2 => kd_0 92 n L
  | .i2b => kd_0 145 n L
  | .i2l => kd_0 133 n L
  | .iadd => kd_0 96 n L
  | .iaload => kd_0 46 n L
  | .iand => kd_0 126 n L
  | .iastore => kd_0 79 n L
  | .idiv => kd_0 108 n L
  | .imul => kd_0 104 n L
  | .ineg => kd_0 116 n L
  | .ior => kd_0 128 n L
  | .irem => kd_0 112 n L
  | .ireturn => kd_0 172 n L
  | .ishl => kd_0 120 n L
  | .ishr => kd_0 122 n L
  | .isub => kd_0 100 n L
  | .iushr => kd_0 124 n L
  | .ixor => kd_0 130 n L
  | .l2i => kd_0 136 n L
  | .ladd => kd_0 97 n L
  | .lcmp => kd_0 148 n L
  | .ldiv => kd_0 109 n L
  | .lmul => kd_0 105 n L
  | .lneg => kd_0 117 n L
  | .lrem => kd_0 113 n L
  | .lreturn => kd_0 173 n L
  | .pop => kd_0 87 n L
  | .pop2 => kd_0 88 n L
  | .return_ => kd_0 177 n L
  | .bipush k => kd_s1 16 k n L
  | .goto k => kd_s2 167 k n L
  | .sipush k => kd_s2 17 k n L
  | _ => none
theorem kd_one_ok {c : ByteArray} {p n : Nat} {i : Instr} {L r : List UInt8} (hL : c.data.toList.drop p = L) (h : kd_one i n L = some r) : decode c p = .ok (i, n) ∧ c.data.toList.drop (p + n) = r := by
  cases i
  case aload k => exact kd_1_ok hL h (fun h0 h1 => dk_25 c p h0 _ h1)
  case astore k => exact kd_1_ok hL h (fun h0 h1 => dk_58 c p h0 _ h1)
  case iload k => exact kd_1_ok hL h (fun h0 h1 => dk_21 c p h0 _ h1)
  case istore k => exact kd_1_ok hL h (fun h0 h1 => dk_54 c p h0 _ h1)
  case ldc k => exact kd_1_ok hL h (fun h0 h1 => dk_18 c p h0 _ h1)
  case lload k => exact kd_1_ok hL h (fun h0 h1 => dk_22 c p h0 _ h1)
  case lstore k => exact kd_1_ok hL h (fun h0 h1 => dk_55 c p h0 _ h1)
  case anewarray k => exact kd_2_ok hL h (fun h0 x h1 y h2 e => e ▸ dk_189 c p h0 x h1 y h2)
  case getfield k => exact kd_2_ok hL h (fun h0 x h1 y h2 e => e ▸ dk_180 c p h0 x h1 y h2)
  case getstatic k => exact kd_2_ok hL h (fun h0 x h1 y h2 e => e ▸ dk_178 c p h0 x h1 y h2)
  case invokespecial k => exact kd_2_ok hL h (fun h0 x h1 y h2 e => e ▸ dk_183 c p h0 x h1 y h2)
  case invokestatic k => exact kd_2_ok hL h (fun h0 x h1 y h2 e => e ▸ dk_184 c p h0 x h1 y h2)
  case invokevirtual k => exact kd_2_ok hL h (fun h0 x h1 y h2 e => e ▸ dk_182 c p h0 x h1 y h2)
  case ldc2_w k => exact kd_2_ok hL h (fun h0 x h1 y h2 e => e ▸ dk_20 c p h0 x h1 y h2)
  case ldc_w k => exact kd_2_ok hL h (fun h0 x h1 y h2 e => e ▸ dk_19 c p h0 x h1 y h2)
  case new k => exact kd_2_ok hL h (fun h0 x h1 y h2 e => e ▸ dk_187 c p h0 x h1 y h2)
  case putfield k => exact kd_2_ok hL h (fun h0 x h1 y h2 e => e ▸ dk_181 c p h0 x h1 y h2)
  case iconst k => exact kd_ic_ok hL h
  case aload_n k => exact kd_0_ok (o := 42 + k.val) hL h (match k with | 0 => dk_42 c p | 1 => dk_43 c p | 2 => dk_44 c p | 3 => dk_45 c p)
  case astore_n k => exact kd_0_ok (o := 75 + k.val) hL h (match k with | 0 => dk_75 c p | 1 => dk_76 c p | 2 => dk_77 c p | 3 => dk_78 c p)
  case iload_n k => exact kd_0_ok (o := 26 + k.val) hL h (match k with | 0 => dk_26 c p | 1 => dk_27 c p | 2 => dk_28 c p | 3 => dk_29 c p)
  case istore_n k => exact kd_0_ok (o := 59 + k.val) hL h (match k with | 0 => dk_59 c p | 1 => dk_60 c p | 2 => dk_61 c p | 3 => dk_62 c p)
  case lconst k => exact kd_0_ok (o := 9 + k.val) hL h (match k with | 0 => dk_9 c p | 1 => dk_10 c p)
  case lload_n k => exact kd_0_ok (o := 30 + k.val) hL h (match k with | 0 => dk_30 c p | 1 => dk_31 c p | 2 => dk_32 c p | 3 => dk_33 c p)
  case lstore_n k => exact kd_0_ok (o := 63 + k.val) hL h (match k with | 0 => dk_63 c p | 1 => dk_64 c p | 2 => dk_65 c p | 3 => dk_66 c p)
  case iinc k v => exact kd_ii_ok hL h
  case ifCond k v => exact kd_s2_ok (o := 153 + kd_cc k) hL h (fun h0 x h1 y h2 e => e ▸ (match k, h0 with | .eq, h0 => dk_153 c p h0 x h1 y h2 | .ne, h0 => dk_154 c p h0 x h1 y h2 | .lt, h0 => dk_155 c p h0 x h1 y h2 | .ge, h0 => dk_156 c p h0 x h1 y h2 | .gt, h0 => dk_157 c p h0 x h1 y h2 | .le, h0 => dk_158 c p h0 x h1 y h2))
  case if_icmp k v => exact kd_s2_ok (o := 159 + kd_cc k) hL h (fun h0 x h1 y h2 e => e ▸ (match k, h0 with | .eq, h0 => dk_159 c p h0 x h1 y h2 | .ne, h0 => dk_160 c p h0 x h1 y h2 | .lt, h0 => dk_161 c p h0 x h1 y h2 | .ge, h0 => dk_162 c p h0 x h1 y h2 | .gt, h0 => dk_163 c p h0 x h1 y h2 | .le, h0 => dk_164 c p h0 x h1 y h2))
  case aaload => exact kd_0_ok hL h (dk_50 c p)
  case aastore => exact kd_0_ok hL h (dk_83 c p)
  case arraylength => exact kd_0_ok hL h (dk_190 c p)
  case dup => exact kd_0_ok hL h (dk_89 c p)
  case dup2 => exact kd_0_ok hL h (dk_92 c p)
  case i2b => exact kd_0_ok hL h (dk_145 c p)
  case i2l => exact kd_0_ok hL h (dk_133 c p)
  case iadd => exact kd_0_ok hL h (dk_96 c p)
  case iaload => exact kd_0_ok hL h (dk_46 c p)
  case iand => exact kd_0_ok hL h (dk_126 c p)
  case iastore => exact kd_0_ok hL h (dk_79 c p)
  case idiv => exact kd_0_ok hL h (dk_108 c p)
  case imul => exact kd_0_ok hL h (dk_104 c p)
  case ineg => exact kd_0_ok hL h (dk_116 c p)
  case ior => exact kd_0_ok hL h (dk_128 c p)
  case irem => exact kd_0_ok hL h (dk_112 c p)
  case ireturn => exact kd_0_ok hL h (dk_172 c p)
  case ishl => exact kd_0_ok hL h (dk_120 c p)
  case ishr => exact kd_0_ok hL h (dk_122 c p)
  case isub => exact kd_0_ok hL h (dk_100 c p)
  case iushr => exact kd_0_ok hL h (dk_124 c p)
  case ixor => exact kd_0_ok hL h (dk_130 c p)
  case l2i => exact kd_0_ok hL h (dk_136 c p)
  case ladd => exact kd_0_ok hL h (dk_97 c p)
  case lcmp => exact kd_0_ok hL h (dk_148 c p)
  case ldiv => exact kd_0_ok hL h (dk_109 c p)
  case lmul => exact kd_0_ok hL h (dk_105 c p)
  case lneg => exact kd_0_ok hL h (dk_117 c p)
  case lrem => exact kd_0_ok hL h (dk_113 c p)
  case lreturn => exact kd_0_ok hL h (dk_173 c p)
  case pop => exact kd_0_ok hL h (dk_87 c p)
  case pop2 => exact kd_0_ok hL h (dk_88 c p)
  case return_ => exact kd_0_ok hL h (dk_177 c p)
  case bipush k => exact kd_s1_ok hL h (fun h0 x h1 e => e ▸ dk_16 c p h0 x h1)
  case goto k => exact kd_s2_ok hL h (fun h0 x h1 y h2 e => e ▸ dk_167 c p h0 x h1 y h2)
  case sipush k => exact kd_s2_ok hL h (fun h0 x h1 y h2 e => e ▸ dk_17 c p h0 x h1 y h2)
  all_goals exact absurd (show (none : Option (List UInt8)) = some r from h) (fun e => nomatch e)
def kd_all (c : ByteArray) (L : List UInt8) (p : Nat) : List (Nat × Instr × Nat) → Bool
  | [] => true
  | (q, i, n) :: t => bif Nat.beq q p then (match kd_one i n L with | some r => kd_all c r (q + n) t | none => bif decide (decode c q = .ok (i, n)) then kd_all c (L.drop n) (q + n) t else false) else false
theorem kd_all_ok (c : ByteArray) : ∀ (T : List (Nat × Instr × Nat)) (L : List UInt8) (p : Nat), c.data.toList.drop p = L → kd_all c L p T = true → ∀ q ∈ T, decode c q.1 = .ok q.2
  | [], _, _, _, _ => fun _ h => absurd h List.not_mem_nil
  | (q, i, n) :: t, L, p, hL, h => by
    have h' : (bif Nat.beq q p then (match kd_one i n L with | some r => kd_all c r (q + n) t | none => bif decide (decode c q = .ok (i, n)) then kd_all c (L.drop n) (q + n) t else false) else false) = true := h
    cases hb : Nat.beq q p with
    | false => rw [hb] at h'; cases h'
    | true =>
      rw [hb] at h'
      have e := Nat.eq_of_beq_eq_true hb
      subst e
      cases ho : kd_one i n L with
      | none =>
        rw [ho] at h'
        cases hd : decide (decode c q = .ok (i, n)) with
        | false => simp only [hd] at h'; cases h'
        | true =>
          simp only [hd] at h'
          have g2 : c.data.toList.drop (q + n) = L.drop n := by rw [← hL, List.drop_drop]
          exact List.forall_mem_cons.mpr ⟨of_decide_eq_true hd, kd_all_ok c t _ (q + n) g2 h'⟩
      | some r =>
        rw [ho] at h'
        obtain ⟨g1, g2⟩ := kd_one_ok hL ho
        exact List.forall_mem_cons.mpr ⟨g1, kd_all_ok c t r (q + n) g2 h'⟩
theorem kd_tab (c : ByteArray) (T : List (Nat × Instr × Nat)) (h : kd_all c c.data.toList 0 T = true) : ∀ q ∈ T, decode c q.1 = .ok q.2 := kd_all_ok c T _ 0 rfl h
theorem kd_tab2 (c : ByteArray) (p : Nat) (T : List (Nat × Instr × Nat)) (h : kd_all c (c.data.toList.drop p) p T = true) : ∀ q ∈ T, decode c q.1 = .ok q.2 := kd_all_ok c T _ p rfl h
end
section
def mX0_draw : kw_M := ((RX0, yX0_draw, cX0_draw, 7, none), [(0, .aload_n 0, 1), (1, .aload_n 1, 1), (2, .getfield 18, 3), (5, .putfield 24, 3), (8, .aload_n 0, 1), (9, .iconst 1, 1), (10, .putfield 25, 3), (13, .aload_n 0, 1), (14, .getfield 9, 3), (17, .iconst 0, 1), (18, .iconst 0, 1), (19, .iastore, 1), (20, .aload_n 0, 1), (21, .getfield 15, 3), (24, .iconst 0, 1), (25, .iconst 0, 1), (26, .iastore, 1), (27, .iconst 0, 1), (28, .istore_n 3, 1), (29, .iload_n 3, 1), (30, .aload_n 0, 1), (31, .getfield 24, 3), (34, .if_icmp .ge 112, 3), (37, .aload_n 1, 1), (38, .iload_n 3, 1), (39, .iload_n 2, 1), (40, .invokevirtual 28, 3), (43, .istore 4, 2), (45, .iload 4, 2), (47, .aload_n 1, 1), (48, .getfield 32, 3), (51, .iload_n 3, 1), (52, .iaload, 1), (53, .imul, 1), (54, .istore 5, 2), (56, .iconst 0, 1), (57, .istore 6, 2), (59, .iload 6, 2), (61, .aload_n 0, 1), (62, .getfield 25, 3), (65, .if_icmp .ge 65, 3), (68, .aload_n 0, 1), (69, .getfield 25, 3), (72, .iload 6, 2), (74, .iadd, 1), (75, .bipush 64, 2), (77, .if_icmp .ge 53, 3), (80, .aload_n 0, 1), (81, .getfield 9, 3), (84, .aload_n 0, 1), (85, .getfield 25, 3), (88, .iload 6, 2), (90, .iadd, 1), (91, .aload_n 0, 1), (92, .getfield 9, 3), (95, .iload 6, 2), (97, .iaload, 1), (98, .iload 4, 2), (100, .iadd, 1), (101, .iastore, 1), (102, .aload_n 0, 1), (103, .getfield 15, 3), (106, .aload_n 0, 1), (107, .getfield 25, 3), (110, .iload 6, 2), (112, .iadd, 1), (113, .aload_n 0, 1), (114, .getfield 15, 3), (117, .iload 6, 2), (119, .iaload, 1), (120, .iload 5, 2), (122, .iadd, 1), (123, .iastore, 1), (124, .iinc 6 1, 3), (127, .goto (-68), 3), (130, .aload_n 0, 1), (131, .dup, 1), (132, .getfield 25, 3), (135, .iconst 1, 1), (136, .ishl, 1), (137, .putfield 25, 3), (140, .iinc 3 1, 3), (143, .goto (-114), 3), (146, .return_, 1)])
set_option maxRecDepth 20000 in
theorem tX0_draw : ∀ q ∈ mX0_draw.2, decode mX0_draw.1.2.2.1 q.1 = .ok q.2 := kd_tab cX0_draw mX0_draw.2 (by decide +kernel)
def mX0_milesOf : kw_M := ((RX0, yX0_milesOf, cX0_milesOf, 2, (some .int)), [(0, .iload_n 1, 1), (1, .ifCond .lt 20, 3), (4, .iload_n 1, 1), (5, .bipush 64, 2), (7, .if_icmp .ge 14, 3), (10, .aload_n 0, 1), (11, .getfield 9, 3), (14, .iload_n 1, 1), (15, .iaload, 1), (16, .iconst 4, 1), (17, .idiv, 1), (18, .goto 4, 3), (21, .iconst 0, 1), (22, .ireturn, 1)])
set_option maxRecDepth 20000 in
theorem tX0_milesOf : ∀ q ∈ mX0_milesOf.2, decode mX0_milesOf.1.2.2.1 q.1 = .ok q.2 := kd_tab cX0_milesOf mX0_milesOf.2 (by decide +kernel)
def mX0_turnBy : kw_M := ((RX0, yX0_turnBy, cX0_turnBy, 2, (some .int)), [(0, .iload_n 1, 1), (1, .ifCond .lt 18, 3), (4, .iload_n 1, 1), (5, .bipush 64, 2), (7, .if_icmp .ge 12, 3), (10, .aload_n 0, 1), (11, .getfield 15, 3), (14, .iload_n 1, 1), (15, .iaload, 1), (16, .goto 4, 3), (19, .iconst 0, 1), (20, .ireturn, 1)])
set_option maxRecDepth 20000 in
theorem tX0_turnBy : ∀ q ∈ mX0_turnBy.2, decode mX0_turnBy.1.2.2.1 q.1 = .ok q.2 := kd_tab cX0_turnBy mX0_turnBy.2 (by decide +kernel)
def mX0_fits : kw_M := ((RX0, yX0_fits, cX0_fits, 4, (some .boolean)), [(0, .aload_n 0, 1), (1, .iload_n 1, 1), (2, .invokevirtual 35, 3), (5, .iload_n 2, 1), (6, .if_icmp .ne 16, 3), (9, .aload_n 0, 1), (10, .iload_n 1, 1), (11, .invokevirtual 39, 3), (14, .iload_n 3, 1), (15, .if_icmp .ne 7, 3), (18, .iconst 1, 1), (19, .goto 4, 3), (22, .iconst 0, 1), (23, .ireturn, 1)])
set_option maxRecDepth 20000 in
theorem tX0_fits : ∀ q ∈ mX0_fits.2, decode mX0_fits.1.2.2.1 q.1 = .ok q.2 := kd_tab cX0_fits mX0_fits.2 (by decide +kernel)
def mX1_copyFrom : kw_M := ((RX1, yX1_copyFrom, cX1_copyFrom, 2, none), [(0, .aload_n 1, 1), (1, .getfield 9, 3), (4, .iconst 0, 1), (5, .aload_n 0, 1), (6, .getfield 9, 3), (9, .iconst 0, 1), (10, .bipush 6, 2), (12, .invokestatic 27, 3), (15, .aload_n 1, 1), (16, .getfield 15, 3), (19, .iconst 0, 1), (20, .aload_n 0, 1), (21, .getfield 15, 3), (24, .iconst 0, 1), (25, .bipush 6, 2), (27, .invokestatic 27, 3), (30, .aload_n 1, 1), (31, .getfield 18, 3), (34, .iconst 0, 1), (35, .aload_n 0, 1), (36, .getfield 18, 3), (39, .iconst 0, 1), (40, .bipush 6, 2), (42, .invokestatic 27, 3), (45, .aload_n 1, 1), (46, .getfield 21, 3), (49, .iconst 0, 1), (50, .aload_n 0, 1), (51, .getfield 21, 3), (54, .iconst 0, 1), (55, .bipush 6, 2), (57, .invokestatic 27, 3), (60, .aload_n 1, 1), (61, .getfield 24, 3), (64, .iconst 0, 1), (65, .aload_n 0, 1), (66, .getfield 24, 3), (69, .iconst 0, 1), (70, .bipush 8, 2), (72, .invokestatic 27, 3), (75, .aload_n 0, 1), (76, .aload_n 1, 1), (77, .getfield 33, 3), (80, .putfield 33, 3), (83, .aload_n 0, 1), (84, .aload_n 1, 1), (85, .getfield 37, 3), (88, .putfield 37, 3), (91, .return_, 1)])
set_option maxRecDepth 20000 in
theorem tX1_copyFrom : ∀ q ∈ mX1_copyFrom.2, decode mX1_copyFrom.1.2.2.1 q.1 = .ok q.2 := kd_tab cX1_copyFrom mX1_copyFrom.2 (by decide +kernel)
def mX1_hasLine : kw_M := ((RX1, yX1_hasLine, cX1_hasLine, 2, (some .boolean)), [(0, .iload_n 1, 1), (1, .ifCond .lt 15, 3), (4, .iload_n 1, 1), (5, .aload_n 0, 1), (6, .getfield 33, 3), (9, .if_icmp .ge 7, 3), (12, .iconst 1, 1), (13, .goto 4, 3), (16, .iconst 0, 1), (17, .ireturn, 1)])
set_option maxRecDepth 20000 in
theorem tX1_hasLine : ∀ q ∈ mX1_hasLine.2, decode mX1_hasLine.1.2.2.1 q.1 = .ok q.2 := kd_tab cX1_hasLine mX1_hasLine.2 (by decide +kernel)
def mX1_allLines : kw_M := ((RX1, yX1_allLines, cX1_allLines, 1, (some .int)), [(0, .iconst 1, 1), (1, .aload_n 0, 1), (2, .getfield 33, 3), (5, .ishl, 1), (6, .iconst 1, 1), (7, .isub, 1), (8, .ireturn, 1)])
set_option maxRecDepth 20000 in
theorem tX1_allLines : ∀ q ∈ mX1_allLines.2, decode mX1_allLines.1.2.2.1 q.1 = .ok q.2 := kd_tab cX1_allLines mX1_allLines.2 (by decide +kernel)
def mX1_hasSet : kw_M := ((RX1, yX1_hasSet, cX1_hasSet, 2, (some .boolean)), [(0, .iload_n 1, 1), (1, .ifCond .lt 15, 3), (4, .iload_n 1, 1), (5, .aload_n 0, 1), (6, .invokevirtual 40, 3), (9, .if_icmp .gt 7, 3), (12, .iconst 1, 1), (13, .goto 4, 3), (16, .iconst 0, 1), (17, .ireturn, 1)])
set_option maxRecDepth 20000 in
theorem tX1_hasSet : ∀ q ∈ mX1_hasSet.2, decode mX1_hasSet.1.2.2.1 q.1 = .ok q.2 := kd_tab cX1_hasSet mX1_hasSet.2 (by decide +kernel)
def mX1_windAt : kw_M := ((RX1, yX1_windAt, cX1_windAt, 2, (some .int)), [(0, .aload_n 0, 1), (1, .getfield 37, 3), (4, .iconst 1, 1), (5, .if_icmp .lt 7, 3), (8, .iload_n 1, 1), (9, .ifCond .ge 7, 3), (12, .iconst 0, 1), (13, .goto 14, 3), (16, .aload_n 0, 1), (17, .getfield 24, 3), (20, .iload_n 1, 1), (21, .aload_n 0, 1), (22, .getfield 37, 3), (25, .irem, 1), (26, .iaload, 1), (27, .ireturn, 1)])
set_option maxRecDepth 20000 in
theorem tX1_windAt : ∀ q ∈ mX1_windAt.2, decode mX1_windAt.1.2.2.1 q.1 = .ok q.2 := kd_tab cX1_windAt mX1_windAt.2 (by decide +kernel)
def mX1_pullOf : kw_M := ((RX1, yX1_pullOf, cX1_pullOf, 3, (some .int)), [(0, .aload_n 0, 1), (1, .iload_n 1, 1), (2, .invokevirtual 44, 3), (5, .ifCond .eq 22, 3), (8, .aload_n 0, 1), (9, .getfield 9, 3), (12, .iload_n 1, 1), (13, .iaload, 1), (14, .aload_n 0, 1), (15, .getfield 18, 3), (18, .iload_n 1, 1), (19, .iaload, 1), (20, .iload_n 2, 1), (21, .invokestatic 48, 3), (24, .goto 4, 3), (27, .iconst 0, 1), (28, .ireturn, 1)])
set_option maxRecDepth 20000 in
theorem tX1_pullOf : ∀ q ∈ mX1_pullOf.2, decode mX1_pullOf.1.2.2.1 q.1 = .ok q.2 := kd_tab cX1_pullOf mX1_pullOf.2 (by decide +kernel)
def mX1_milesOf : kw_M := ((RX1, yX1_milesOf, cX1_milesOf, 5, (some .int)), [(0, .iconst 0, 1), (1, .istore_n 3, 1), (2, .iconst 0, 1), (3, .istore 4, 2), (5, .iload 4, 2), (7, .aload_n 0, 1), (8, .getfield 33, 3), (11, .if_icmp .ge 29, 3), (14, .iload_n 1, 1), (15, .iload 4, 2), (17, .ishr, 1), (18, .iconst 1, 1), (19, .iand, 1), (20, .iconst 1, 1), (21, .if_icmp .ne 13, 3), (24, .iload_n 3, 1), (25, .aload_n 0, 1), (26, .iload 4, 2), (28, .iload_n 2, 1), (29, .invokevirtual 52, 3), (32, .iadd, 1), (33, .istore_n 3, 1), (34, .iinc 4 1, 3), (37, .goto (-32), 3), (40, .iload_n 3, 1), (41, .iconst 4, 1), (42, .idiv, 1), (43, .ireturn, 1)])
set_option maxRecDepth 20000 in
theorem tX1_milesOf : ∀ q ∈ mX1_milesOf.2, decode mX1_milesOf.1.2.2.1 q.1 = .ok q.2 := kd_tab cX1_milesOf mX1_milesOf.2 (by decide +kernel)
def mX1_turnOf : kw_M := ((RX1, yX1_turnOf, cX1_turnOf, 5, (some .int)), [(0, .iconst 0, 1), (1, .istore_n 3, 1), (2, .iconst 0, 1), (3, .istore 4, 2), (5, .iload 4, 2), (7, .aload_n 0, 1), (8, .getfield 33, 3), (11, .if_icmp .ge 37, 3), (14, .iload_n 1, 1), (15, .iload 4, 2), (17, .ishr, 1), (18, .iconst 1, 1), (19, .iand, 1), (20, .iconst 1, 1), (21, .if_icmp .ne 21, 3), (24, .iload_n 3, 1), (25, .aload_n 0, 1), (26, .iload 4, 2), (28, .iload_n 2, 1), (29, .invokevirtual 52, 3), (32, .aload_n 0, 1), (33, .getfield 15, 3), (36, .iload 4, 2), (38, .iaload, 1), (39, .imul, 1), (40, .iadd, 1), (41, .istore_n 3, 1), (42, .iinc 4 1, 3), (45, .goto (-40), 3), (48, .iload_n 3, 1), (49, .ireturn, 1)])
set_option maxRecDepth 20000 in
theorem tX1_turnOf : ∀ q ∈ mX1_turnOf.2, decode mX1_turnOf.1.2.2.1 q.1 = .ok q.2 := kd_tab cX1_turnOf mX1_turnOf.2 (by decide +kernel)
def mX1_mostMilesOf : kw_M := ((RX1, yX1_mostMilesOf, cX1_mostMilesOf, 5, (some .int)), [(0, .iconst 0, 1), (1, .istore_n 3, 1), (2, .iconst 0, 1), (3, .istore 4, 2), (5, .iload 4, 2), (7, .aload_n 0, 1), (8, .getfield 33, 3), (11, .if_icmp .ge 33, 3), (14, .iload_n 1, 1), (15, .iload 4, 2), (17, .ishr, 1), (18, .iconst 1, 1), (19, .iand, 1), (20, .iconst 1, 1), (21, .if_icmp .ne 17, 3), (24, .iload_n 3, 1), (25, .iconst 0, 1), (26, .aload_n 0, 1), (27, .iload 4, 2), (29, .iload_n 2, 1), (30, .invokevirtual 52, 3), (33, .invokestatic 56, 3), (36, .iadd, 1), (37, .istore_n 3, 1), (38, .iinc 4 1, 3), (41, .goto (-36), 3), (44, .iload_n 3, 1), (45, .iconst 4, 1), (46, .idiv, 1), (47, .ireturn, 1)])
set_option maxRecDepth 20000 in
theorem tX1_mostMilesOf : ∀ q ∈ mX1_mostMilesOf.2, decode mX1_mostMilesOf.1.2.2.1 q.1 = .ok q.2 := kd_tab cX1_mostMilesOf mX1_mostMilesOf.2 (by decide +kernel)
def mX1_linenOf : kw_M := ((RX1, yX1_linenOf, cX1_linenOf, 4, (some .int)), [(0, .iconst 0, 1), (1, .istore_n 2, 1), (2, .iconst 0, 1), (3, .istore_n 3, 1), (4, .iload_n 3, 1), (5, .aload_n 0, 1), (6, .getfield 33, 3), (9, .if_icmp .ge 27, 3), (12, .iload_n 1, 1), (13, .iload_n 3, 1), (14, .ishr, 1), (15, .iconst 1, 1), (16, .iand, 1), (17, .iconst 1, 1), (18, .if_icmp .ne 12, 3), (21, .iload_n 2, 1), (22, .aload_n 0, 1), (23, .getfield 21, 3), (26, .iload_n 3, 1), (27, .iaload, 1), (28, .iadd, 1), (29, .istore_n 2, 1), (30, .iinc 3 1, 3), (33, .goto (-29), 3), (36, .iload_n 2, 1), (37, .ireturn, 1)])
set_option maxRecDepth 20000 in
theorem tX1_linenOf : ∀ q ∈ mX1_linenOf.2, decode mX1_linenOf.1.2.2.1 q.1 = .ok q.2 := kd_tab cX1_linenOf mX1_linenOf.2 (by decide +kernel)
def mX1_howManyAre : kw_M := ((RX1, yX1_howManyAre, cX1_howManyAre, 4, (some .int)), [(0, .iconst 0, 1), (1, .istore_n 2, 1), (2, .iconst 0, 1), (3, .istore_n 3, 1), (4, .iload_n 3, 1), (5, .aload_n 0, 1), (6, .getfield 33, 3), (9, .if_icmp .ge 25, 3), (12, .aload_n 0, 1), (13, .getfield 9, 3), (16, .iload_n 3, 1), (17, .iaload, 1), (18, .iload_n 1, 1), (19, .invokestatic 61, 3), (22, .ifCond .eq 6, 3), (25, .iinc 2 1, 3), (28, .iinc 3 1, 3), (31, .goto (-27), 3), (34, .iload_n 2, 1), (35, .ireturn, 1)])
set_option maxRecDepth 20000 in
theorem tX1_howManyAre : ∀ q ∈ mX1_howManyAre.2, decode mX1_howManyAre.1.2.2.1 q.1 = .ok q.2 := kd_tab cX1_howManyAre mX1_howManyAre.2 (by decide +kernel)
def mX1_othersNoWider : kw_M := ((RX1, yX1_othersNoWider, cX1_othersNoWider, 4, (some .int)), [(0, .aload_n 0, 1), (1, .iload_n 1, 1), (2, .invokevirtual 44, 3), (5, .ifCond .ne 5, 3), (8, .iconst 0, 1), (9, .ireturn, 1), (10, .iconst 0, 1), (11, .istore_n 2, 1), (12, .iconst 0, 1), (13, .istore_n 3, 1), (14, .iload_n 3, 1), (15, .aload_n 0, 1), (16, .getfield 33, 3), (19, .if_icmp .ge 32, 3), (22, .iload_n 3, 1), (23, .iload_n 1, 1), (24, .if_icmp .eq 21, 3), (27, .aload_n 0, 1), (28, .getfield 18, 3), (31, .iload_n 3, 1), (32, .iaload, 1), (33, .aload_n 0, 1), (34, .getfield 18, 3), (37, .iload_n 1, 1), (38, .iaload, 1), (39, .if_icmp .gt 6, 3), (42, .iinc 2 1, 3), (45, .iinc 3 1, 3), (48, .goto (-34), 3), (51, .iload_n 2, 1), (52, .ireturn, 1)])
set_option maxRecDepth 20000 in
theorem tX1_othersNoWider : ∀ q ∈ mX1_othersNoWider.2, decode mX1_othersNoWider.1.2.2.1 q.1 = .ok q.2 := kd_tab cX1_othersNoWider mX1_othersNoWider.2 (by decide +kernel)
def mX2_faultOf : kw_M := ((RX2, yX2_faultOf, cX2_faultOf, 4, (some .int)), [(0, .aload_n 0, 1), (1, .getfield 12, 3), (4, .iconst 0, 1), (5, .putfield 18, 3), (8, .aload_n 0, 1), (9, .getfield 12, 3), (12, .iconst 0, 1), (13, .putfield 22, 3), (16, .aload_n 0, 1), (17, .iconst 0, 1), (18, .putfield 25, 3), (21, .aload_n 0, 1), (22, .aload_n 1, 1), (23, .iload_n 2, 1), (24, .invokevirtual 28, 3), (27, .aload_n 1, 1), (28, .iload_n 2, 1), (29, .aload_n 0, 1), (30, .getfield 25, 3), (33, .invokevirtual 32, 3), (36, .bipush 119, 2), (38, .if_icmp .eq 8, 3), (41, .aload_n 0, 1), (42, .getfield 25, 3), (45, .ireturn, 1), (46, .aload_n 0, 1), (47, .dup, 1), (48, .getfield 25, 3), (51, .iconst 1, 1), (52, .iadd, 1), (53, .putfield 25, 3), (56, .aload_n 0, 1), (57, .aload_n 1, 1), (58, .iload_n 2, 1), (59, .invokevirtual 38, 3), (62, .aload_n 0, 1), (63, .getfield 12, 3), (66, .getfield 22, 3), (69, .ifCond .ne 8, 3), (72, .aload_n 0, 1), (73, .getfield 25, 3), (76, .ireturn, 1), (77, .iconst 0, 1), (78, .istore_n 3, 1), (79, .iload_n 3, 1), (80, .bipush 6, 2), (82, .if_icmp .gt 54, 3), (85, .aload_n 0, 1), (86, .aload_n 1, 1), (87, .iload_n 2, 1), (88, .invokevirtual 28, 3), (91, .iload_n 3, 1), (92, .ifCond .le 18, 3), (95, .aload_n 0, 1), (96, .getfield 25, 3), (99, .aload_n 1, 1), (100, .iload_n 2, 1), (101, .invokevirtual 41, 3), (104, .if_icmp .lt 6, 3), (107, .bipush (-9), 2), (109, .ireturn, 1), (110, .iload_n 3, 1), (111, .bipush 6, 2), (113, .if_icmp .eq 12, 3), (116, .aload_n 0, 1), (117, .aload_n 1, 1), (118, .iload_n 2, 1), (119, .invokevirtual 45, 3), (122, .ifCond .ne 8, 3), (125, .aload_n 0, 1), (126, .getfield 25, 3), (129, .ireturn, 1), (130, .iinc 3 1, 3), (133, .goto (-54), 3), (136, .aload_n 0, 1), (137, .getfield 25, 3), (140, .ireturn, 1)])
set_option maxRecDepth 20000 in
theorem tX2_faultOf : ∀ q ∈ mX2_faultOf.2, decode mX2_faultOf.1.2.2.1 q.1 = .ok q.2 := kd_tab cX2_faultOf mX2_faultOf.2 (by decide +kernel)
def mX2_skipBlanks : kw_M := ((RX2, yX2_skipBlanks, cX2_skipBlanks, 4, none), [(0, .iconst 0, 1), (1, .istore_n 3, 1), (2, .iload_n 3, 1), (3, .bipush 60, 2), (5, .if_icmp .ge 33, 3), (8, .aload_n 1, 1), (9, .iload_n 2, 1), (10, .aload_n 0, 1), (11, .getfield 25, 3), (14, .invokevirtual 32, 3), (17, .bipush 32, 2), (19, .if_icmp .ne 19, 3), (22, .aload_n 0, 1), (23, .dup, 1), (24, .getfield 25, 3), (27, .iconst 1, 1), (28, .iadd, 1), (29, .putfield 25, 3), (32, .iinc 3 1, 3), (35, .goto (-33), 3), (38, .return_, 1)])
set_option maxRecDepth 20000 in
theorem tX2_skipBlanks : ∀ q ∈ mX2_skipBlanks.2, decode mX2_skipBlanks.1.2.2.1 q.1 = .ok q.2 := kd_tab cX2_skipBlanks mX2_skipBlanks.2 (by decide +kernel)
def mX2_readWinds : kw_M := ((RX2, yX2_readWinds, cX2_readWinds, 5, none), [(0, .iconst 0, 1), (1, .istore_n 3, 1), (2, .iload_n 3, 1), (3, .bipush 8, 2), (5, .if_icmp .ge 66, 3), (8, .aload_n 1, 1), (9, .iload_n 2, 1), (10, .aload_n 0, 1), (11, .getfield 25, 3), (14, .invokevirtual 32, 3), (17, .bipush 48, 2), (19, .isub, 1), (20, .istore 4, 2), (22, .iload 4, 2), (24, .ifCond .lt 9, 3), (27, .iload 4, 2), (29, .iconst 5, 1), (30, .if_icmp .le 4, 3), (33, .return_, 1), (34, .aload_n 0, 1), (35, .getfield 12, 3), (38, .getfield 49, 3), (41, .iload_n 3, 1), (42, .iload 4, 2), (44, .iastore, 1), (45, .aload_n 0, 1), (46, .getfield 12, 3), (49, .iload_n 3, 1), (50, .iconst 1, 1), (51, .iadd, 1), (52, .putfield 22, 3), (55, .aload_n 0, 1), (56, .dup, 1), (57, .getfield 25, 3), (60, .iconst 1, 1), (61, .iadd, 1), (62, .putfield 25, 3), (65, .iinc 3 1, 3), (68, .goto (-66), 3), (71, .return_, 1)])
set_option maxRecDepth 20000 in
theorem tX2_readWinds : ∀ q ∈ mX2_readWinds.2, decode mX2_readWinds.1.2.2.1 q.1 = .ok q.2 := kd_tab cX2_readWinds mX2_readWinds.2 (by decide +kernel)
def mX2_readLine : kw_M := ((RX2, yX2_readLine, cX2_readLine, 5, (some .boolean)), [(0, .aload_n 0, 1), (1, .getfield 12, 3), (4, .getfield 18, 3), (7, .istore_n 3, 1), (8, .aload_n 1, 1), (9, .iload_n 2, 1), (10, .aload_n 0, 1), (11, .getfield 25, 3), (14, .invokevirtual 32, 3), (17, .invokestatic 53, 3), (20, .istore 4, 2), (22, .iload_n 3, 1), (23, .ifCond .lt 14, 3), (26, .iload_n 3, 1), (27, .bipush 6, 2), (29, .if_icmp .ge 8, 3), (32, .iload 4, 2), (34, .ifCond .ge 5, 3), (37, .iconst 0, 1), (38, .ireturn, 1), (39, .aload_n 0, 1), (40, .dup, 1), (41, .getfield 25, 3), (44, .iconst 1, 1), (45, .iadd, 1), (46, .putfield 25, 3), (49, .aload_n 0, 1), (50, .getfield 12, 3), (53, .getfield 56, 3), (56, .iload_n 3, 1), (57, .iload 4, 2), (59, .iastore, 1), (60, .aload_n 0, 1), (61, .getfield 12, 3), (64, .getfield 59, 3), (67, .iload_n 3, 1), (68, .aload_n 0, 1), (69, .aload_n 1, 1), (70, .iload_n 2, 1), (71, .iconst 0, 1), (72, .bipush 8, 2), (74, .invokevirtual 62, 3), (77, .iconst 4, 1), (78, .isub, 1), (79, .iastore, 1), (80, .aload_n 0, 1), (81, .getfield 12, 3), (84, .getfield 59, 3), (87, .iload_n 3, 1), (88, .iaload, 1), (89, .bipush (-4), 2), (91, .if_icmp .ge 5, 3), (94, .iconst 0, 1), (95, .ireturn, 1), (96, .aload_n 0, 1), (97, .getfield 12, 3), (100, .getfield 66, 3), (103, .iload_n 3, 1), (104, .aload_n 0, 1), (105, .aload_n 1, 1), (106, .iload_n 2, 1), (107, .iconst 1, 1), (108, .bipush 9, 2), (110, .invokevirtual 62, 3), (113, .iastore, 1), (114, .aload_n 0, 1), (115, .getfield 12, 3), (118, .getfield 66, 3), (121, .iload_n 3, 1), (122, .iaload, 1), (123, .ifCond .ge 5, 3), (126, .iconst 0, 1), (127, .ireturn, 1), (128, .aload_n 0, 1), (129, .getfield 12, 3), (132, .getfield 69, 3), (135, .iload_n 3, 1), (136, .aload_n 0, 1), (137, .aload_n 1, 1), (138, .iload_n 2, 1), (139, .iconst 0, 1), (140, .bipush 9, 2), (142, .invokevirtual 62, 3), (145, .iastore, 1), (146, .aload_n 0, 1), (147, .getfield 12, 3), (150, .getfield 69, 3), (153, .iload_n 3, 1), (154, .iaload, 1), (155, .ifCond .ge 5, 3), (158, .iconst 0, 1), (159, .ireturn, 1), (160, .aload_n 0, 1), (161, .getfield 12, 3), (164, .iload_n 3, 1), (165, .iconst 1, 1), (166, .iadd, 1), (167, .putfield 18, 3), (170, .iconst 1, 1), (171, .ireturn, 1)])
set_option maxRecDepth 20000 in
theorem tX2_readLine : ∀ q ∈ mX2_readLine.2, decode mX2_readLine.1.2.2.1 q.1 = .ok q.2 := kd_tab cX2_readLine mX2_readLine.2 (by decide +kernel)
def mX2_readFigure : kw_M := ((RX2, yX2_readFigure, cX2_readFigure, 6, (some .int)), [(0, .aload_n 1, 1), (1, .iload_n 2, 1), (2, .aload_n 0, 1), (3, .getfield 25, 3), (6, .invokevirtual 32, 3), (9, .bipush 48, 2), (11, .isub, 1), (12, .istore 5, 2), (14, .iload 5, 2), (16, .iload_n 3, 1), (17, .if_icmp .lt 10, 3), (20, .iload 5, 2), (22, .iload 4, 2), (24, .if_icmp .le 5, 3), (27, .iconst (-1), 1), (28, .ireturn, 1), (29, .aload_n 0, 1), (30, .dup, 1), (31, .getfield 25, 3), (34, .iconst 1, 1), (35, .iadd, 1), (36, .putfield 25, 3), (39, .iload 5, 2), (41, .ireturn, 1)])
set_option maxRecDepth 20000 in
theorem tX2_readFigure : ∀ q ∈ mX2_readFigure.2, decode mX2_readFigure.1.2.2.1 q.1 = .ok q.2 := kd_tab cX2_readFigure mX2_readFigure.2 (by decide +kernel)
def mX2_kindOf : kw_M := ((RX2, yX2_kindOf, cX2_kindOf, 2, (some .int)), [(0, .iconst 0, 1), (1, .istore_n 1, 1), (2, .iload_n 1, 1), (3, .bipush 6, 2), (5, .if_icmp .ge 20, 3), (8, .getstatic 72, 3), (11, .iload_n 1, 1), (12, .iaload, 1), (13, .iload_n 0, 1), (14, .if_icmp .ne 5, 3), (17, .iload_n 1, 1), (18, .ireturn, 1), (19, .iinc 1 1, 3), (22, .goto (-20), 3), (25, .iconst (-1), 1), (26, .ireturn, 1)])
set_option maxRecDepth 20000 in
theorem tX2_kindOf : ∀ q ∈ mX2_kindOf.2, decode mX2_kindOf.1.2.2.1 q.1 = .ok q.2 := kd_tab cX2_kindOf mX2_kindOf.2 (by decide +kernel)
def mX3_has : kw_M := ((RX3, yX3_has, cX3_has, 2, (some .boolean)), [(0, .iload_n 1, 1), (1, .ifCond .lt 16, 3), (4, .iload_n 1, 1), (5, .aload_n 0, 1), (6, .getfield 20, 3), (9, .arraylength, 1), (10, .if_icmp .ge 7, 3), (13, .iconst 1, 1), (14, .goto 4, 3), (17, .iconst 0, 1), (18, .ireturn, 1)])
set_option maxRecDepth 20000 in
theorem tX3_has : ∀ q ∈ mX3_has.2, decode mX3_has.1.2.2.1 q.1 = .ok q.2 := kd_tab cX3_has mX3_has.2 (by decide +kernel)
def mX3_isMissing : kw_M := ((RX3, yX3_isMissing, cX3_isMissing, 2, (some .boolean)), [(0, .aload_n 0, 1), (1, .iload_n 1, 1), (2, .invokevirtual 30, 3), (5, .ifCond .ge 7, 3), (8, .iconst 1, 1), (9, .goto 4, 3), (12, .iconst 0, 1), (13, .ireturn, 1)])
set_option maxRecDepth 20000 in
theorem tX3_isMissing : ∀ q ∈ mX3_isMissing.2, decode mX3_isMissing.1.2.2.1 q.1 = .ok q.2 := kd_tab cX3_isMissing mX3_isMissing.2 (by decide +kernel)
def mX3_sizeOf : kw_M := ((RX3, yX3_sizeOf, cX3_sizeOf, 2, (some .int)), [(0, .aload_n 0, 1), (1, .iload_n 1, 1), (2, .invokevirtual 34, 3), (5, .ifCond .eq 12, 3), (8, .aload_n 0, 1), (9, .getfield 20, 3), (12, .iload_n 1, 1), (13, .iaload, 1), (14, .goto 4, 3), (17, .iconst (-1), 1), (18, .ireturn, 1)])
set_option maxRecDepth 20000 in
theorem tX3_sizeOf : ∀ q ∈ mX3_sizeOf.2, decode mX3_sizeOf.1.2.2.1 q.1 = .ok q.2 := kd_tab cX3_sizeOf mX3_sizeOf.2 (by decide +kernel)
def mX3_howMany : kw_M := ((RX3, yX3_howMany, cX3_howMany, 3, (some .int)), [(0, .iconst 0, 1), (1, .istore_n 1, 1), (2, .iconst 0, 1), (3, .istore_n 2, 1), (4, .iload_n 2, 1), (5, .aload_n 0, 1), (6, .getfield 20, 3), (9, .arraylength, 1), (10, .if_icmp .ge 21, 3), (13, .aload_n 0, 1), (14, .getfield 20, 3), (17, .iload_n 2, 1), (18, .iaload, 1), (19, .ifCond .lt 6, 3), (22, .iinc 1 1, 3), (25, .iinc 2 1, 3), (28, .goto (-24), 3), (31, .iload_n 1, 1), (32, .ireturn, 1)])
set_option maxRecDepth 20000 in
theorem tX3_howMany : ∀ q ∈ mX3_howMany.2, decode mX3_howMany.1.2.2.1 q.1 = .ok q.2 := kd_tab cX3_howMany mX3_howMany.2 (by decide +kernel)
def mX3_hasPlaces : kw_M := ((RX3, yX3_hasPlaces, cX3_hasPlaces, 4, (some .boolean)), [(0, .aload_n 0, 1), (1, .iload_n 1, 1), (2, .invokevirtual 34, 3), (5, .ifCond .eq 27, 3), (8, .iload_n 2, 1), (9, .ifCond .lt 23, 3), (12, .iload_n 3, 1), (13, .ifCond .lt 19, 3), (16, .iload_n 2, 1), (17, .aload_n 0, 1), (18, .getfield 20, 3), (21, .iload_n 1, 1), (22, .iaload, 1), (23, .iload_n 3, 1), (24, .isub, 1), (25, .if_icmp .gt 7, 3), (28, .iconst 1, 1), (29, .goto 4, 3), (32, .iconst 0, 1), (33, .ireturn, 1)])
set_option maxRecDepth 20000 in
theorem tX3_hasPlaces : ∀ q ∈ mX3_hasPlaces.2, decode mX3_hasPlaces.1.2.2.1 q.1 = .ok q.2 := kd_tab cX3_hasPlaces mX3_hasPlaces.2 (by decide +kernel)
def mX3_findingAt : kw_M := ((RX3, yX3_findingAt, cX3_findingAt, 3, (some .int)), [(0, .aload_n 0, 1), (1, .iload_n 1, 1), (2, .invokevirtual 38, 3), (5, .ifCond .eq 5, 3), (8, .iconst 1, 1), (9, .ireturn, 1), (10, .aload_n 0, 1), (11, .iload_n 1, 1), (12, .iload_n 2, 1), (13, .iconst 1, 1), (14, .invokevirtual 41, 3), (17, .ifCond .eq 7, 3), (20, .iconst 0, 1), (21, .goto 4, 3), (24, .iconst 2, 1), (25, .ireturn, 1)])
set_option maxRecDepth 20000 in
theorem tX3_findingAt : ∀ q ∈ mX3_findingAt.2, decode mX3_findingAt.1.2.2.1 q.1 = .ok q.2 := kd_tab cX3_findingAt mX3_findingAt.2 (by decide +kernel)
def mX3_valueAt : kw_M := ((RX3, yX3_valueAt, cX3_valueAt, 3, (some .int)), [(0, .aload_n 0, 1), (1, .iload_n 1, 1), (2, .iload_n 2, 1), (3, .iconst 1, 1), (4, .invokevirtual 41, 3), (7, .ifCond .eq 14, 3), (10, .aload_n 0, 1), (11, .getfield 17, 3), (14, .iload_n 1, 1), (15, .aaload, 1), (16, .iload_n 2, 1), (17, .iaload, 1), (18, .goto 6, 3), (21, .sipush 1000, 3), (24, .ireturn, 1)])
set_option maxRecDepth 20000 in
theorem tX3_valueAt : ∀ q ∈ mX3_valueAt.2, decode mX3_valueAt.1.2.2.1 q.1 = .ok q.2 := kd_tab cX3_valueAt mX3_valueAt.2 (by decide +kernel)
def mX3_change : kw_M := ((RX3, yX3_change, cX3_change, 4, none), [(0, .aload_n 0, 1), (1, .iload_n 1, 1), (2, .iload_n 2, 1), (3, .iconst 1, 1), (4, .invokevirtual 41, 3), (7, .ifCond .eq 12, 3), (10, .aload_n 0, 1), (11, .getfield 17, 3), (14, .iload_n 1, 1), (15, .aaload, 1), (16, .iload_n 2, 1), (17, .iload_n 3, 1), (18, .iastore, 1), (19, .return_, 1)])
set_option maxRecDepth 20000 in
theorem tX3_change : ∀ q ∈ mX3_change.2, decode mX3_change.1.2.2.1 q.1 = .ok q.2 := kd_tab cX3_change mX3_change.2 (by decide +kernel)
def mX3_make : kw_M := ((RX3, yX3_make, cX3_make, 4, none), [(0, .aload_n 0, 1), (1, .iload_n 1, 1), (2, .invokevirtual 34, 3), (5, .ifCond .eq 15, 3), (8, .iload_n 2, 1), (9, .ifCond .lt 11, 3), (12, .iload_n 2, 1), (13, .aload_n 0, 1), (14, .getfield 9, 3), (17, .if_icmp .le 4, 3), (20, .return_, 1), (21, .aload_n 0, 1), (22, .getfield 20, 3), (25, .iload_n 1, 1), (26, .iload_n 2, 1), (27, .iastore, 1), (28, .aload_n 0, 1), (29, .getfield 17, 3), (32, .iload_n 1, 1), (33, .aaload, 1), (34, .iload_n 3, 1), (35, .invokestatic 24, 3), (38, .return_, 1)])
set_option maxRecDepth 20000 in
theorem tX3_make : ∀ q ∈ mX3_make.2, decode mX3_make.1.2.2.1 q.1 = .ok q.2 := kd_tab cX3_make mX3_make.2 (by decide +kernel)
def mX3_drop : kw_M := ((RX3, yX3_drop, cX3_drop, 2, none), [(0, .aload_n 0, 1), (1, .iload_n 1, 1), (2, .invokevirtual 34, 3), (5, .ifCond .eq 10, 3), (8, .aload_n 0, 1), (9, .getfield 20, 3), (12, .iload_n 1, 1), (13, .iconst (-1), 1), (14, .iastore, 1), (15, .return_, 1)])
set_option maxRecDepth 20000 in
theorem tX3_drop : ∀ q ∈ mX3_drop.2, decode mX3_drop.1.2.2.1 q.1 = .ok q.2 := kd_tab cX3_drop mX3_drop.2 (by decide +kernel)
def mX3_move : kw_M := ((RX3, yX3_move, cX3_move, 6, none), [(0, .aload_n 0, 1), (1, .iload_n 1, 1), (2, .iload_n 2, 1), (3, .iload 5, 2), (5, .invokevirtual 41, 3), (8, .ifCond .eq 35, 3), (11, .aload_n 0, 1), (12, .iload_n 3, 1), (13, .iload 4, 2), (15, .iload 5, 2), (17, .invokevirtual 41, 3), (20, .ifCond .eq 23, 3), (23, .aload_n 0, 1), (24, .getfield 17, 3), (27, .iload_n 1, 1), (28, .aaload, 1), (29, .iload_n 2, 1), (30, .aload_n 0, 1), (31, .getfield 17, 3), (34, .iload_n 3, 1), (35, .aaload, 1), (36, .iload 4, 2), (38, .iload 5, 2), (40, .invokestatic 45, 3), (43, .return_, 1)])
set_option maxRecDepth 20000 in
theorem tX3_move : ∀ q ∈ mX3_move.2, decode mX3_move.1.2.2.1 q.1 = .ok q.2 := kd_tab cX3_move mX3_move.2 (by decide +kernel)
def mX3_fold : kw_M := ((RX3, yX3_fold, cX3_fold, 7, (some .long)), [(0, .lload_n 1, 1), (1, .lstore_n 3, 1), (2, .iconst 0, 1), (3, .istore 5, 2), (5, .iload 5, 2), (7, .aload_n 0, 1), (8, .getfield 20, 3), (11, .arraylength, 1), (12, .if_icmp .ge 63, 3), (15, .ldc2_w 51, 3), (18, .lload_n 3, 1), (19, .lmul, 1), (20, .aload_n 0, 1), (21, .getfield 20, 3), (24, .iload 5, 2), (26, .iaload, 1), (27, .i2l, 1), (28, .ladd, 1), (29, .lstore_n 3, 1), (30, .iconst 0, 1), (31, .istore 6, 2), (33, .iload 6, 2), (35, .aload_n 0, 1), (36, .getfield 20, 3), (39, .iload 5, 2), (41, .iaload, 1), (42, .if_icmp .ge 27, 3), (45, .ldc2_w 51, 3), (48, .lload_n 3, 1), (49, .lmul, 1), (50, .aload_n 0, 1), (51, .getfield 17, 3), (54, .iload 5, 2), (56, .aaload, 1), (57, .iload 6, 2), (59, .iaload, 1), (60, .i2l, 1), (61, .ladd, 1), (62, .lstore_n 3, 1), (63, .iinc 6 1, 3), (66, .goto (-33), 3), (69, .iinc 5 1, 3), (72, .goto (-67), 3), (75, .lload_n 3, 1), (76, .lreturn, 1)])
set_option maxRecDepth 20000 in
theorem tX3_fold : ∀ q ∈ mX3_fold.2, decode mX3_fold.1.2.2.1 q.1 = .ok q.2 := kd_tab cX3_fold mX3_fold.2 (by decide +kernel)
def mX4_answer : kw_M := ((RX4, yX4_answer, cX4_answer, 2, (some .int)), [(0, .aload_n 0, 1), (1, .iload_n 1, 1), (2, .putfield 19, 3), (5, .iconst 1, 1), (6, .ireturn, 1)])
set_option maxRecDepth 20000 in
theorem tX4_answer : ∀ q ∈ mX4_answer.2, decode mX4_answer.1.2.2.1 q.1 = .ok q.2 := kd_tab cX4_answer mX4_answer.2 (by decide +kernel)
def mX4_refuse : kw_M := ((RX4, yX4_refuse, cX4_refuse, 2, (some .int)), [(0, .iload_n 1, 1), (1, .iconst 1, 1), (2, .if_icmp .lt 8, 3), (5, .iload_n 1, 1), (6, .iconst 5, 1), (7, .if_icmp .le 6, 3), (10, .bipush (-3), 2), (12, .ireturn, 1), (13, .aload_n 0, 1), (14, .iload_n 1, 1), (15, .putfield 23, 3), (18, .aload_n 0, 1), (19, .getfield 9, 3), (22, .iload_n 1, 1), (23, .dup2, 1), (24, .iaload, 1), (25, .iconst 1, 1), (26, .iadd, 1), (27, .iastore, 1), (28, .bipush (-3), 2), (30, .ireturn, 1)])
set_option maxRecDepth 20000 in
theorem tX4_refuse : ∀ q ∈ mX4_refuse.2, decode mX4_refuse.1.2.2.1 q.1 = .ok q.2 := kd_tab cX4_refuse mX4_refuse.2 (by decide +kernel)
def mX4_tellWhole : kw_M := ((RX4, yX4_tellWhole, cX4_tellWhole, 3, none), [(0, .aload_n 0, 1), (1, .lload_n 1, 1), (2, .putfield 26, 3), (5, .aload_n 0, 1), (6, .lconst 1, 1), (7, .putfield 15, 3), (10, .return_, 1)])
set_option maxRecDepth 20000 in
theorem tX4_tellWhole : ∀ q ∈ mX4_tellWhole.2, decode mX4_tellWhole.1.2.2.1 q.1 = .ok q.2 := kd_tab cX4_tellWhole mX4_tellWhole.2 (by decide +kernel)
def mX4_tellShare : kw_M := ((RX4, yX4_tellShare, cX4_tellShare, 7, none), [(0, .lload_n 1, 1), (1, .invokestatic 29, 3), (4, .lload_n 3, 1), (5, .invokestatic 35, 3), (8, .lstore 5, 2), (10, .lload 5, 2), (12, .lconst 1, 1), (13, .lcmp, 1), (14, .ifCond .ge 6, 3), (17, .lconst 1, 1), (18, .lstore 5, 2), (20, .aload_n 0, 1), (21, .lload_n 1, 1), (22, .lload 5, 2), (24, .ldiv, 1), (25, .putfield 26, 3), (28, .aload_n 0, 1), (29, .lload_n 3, 1), (30, .lload 5, 2), (32, .ldiv, 1), (33, .putfield 15, 3), (36, .return_, 1)])
set_option maxRecDepth 20000 in
theorem tX4_tellShare : ∀ q ∈ mX4_tellShare.2, decode mX4_tellShare.1.2.2.1 q.1 = .ok q.2 := kd_tab cX4_tellShare mX4_tellShare.2 (by decide +kernel)
def mX4_commonDivisor : kw_M := ((RX4, yX4_commonDivisor, cX4_commonDivisor, 11, (some .long)), [(0, .lload_n 0, 1), (1, .lstore 4, 2), (3, .lload_n 2, 1), (4, .lstore 6, 2), (6, .iconst 0, 1), (7, .istore 8, 2), (9, .iload 8, 2), (11, .bipush 100, 2), (13, .if_icmp .ge 31, 3), (16, .lload 6, 2), (18, .lconst 0, 1), (19, .lcmp, 1), (20, .ifCond .eq 24, 3), (23, .lload 4, 2), (25, .lload 6, 2), (27, .lrem, 1), (28, .lstore 9, 2), (30, .lload 6, 2), (32, .lstore 4, 2), (34, .lload 9, 2), (36, .lstore 6, 2), (38, .iinc 8 1, 3), (41, .goto (-32), 3), (44, .lload 4, 2), (46, .lreturn, 1)])
set_option maxRecDepth 20000 in
theorem tX4_commonDivisor : ∀ q ∈ mX4_commonDivisor.2, decode mX4_commonDivisor.1.2.2.1 q.1 = .ok q.2 := kd_tab cX4_commonDivisor mX4_commonDivisor.2 (by decide +kernel)
def mX5_isEmpty : kw_M := ((RX5, yX5_isEmpty, cX5_isEmpty, 1, (some .boolean)), [(0, .aload_n 0, 1), (1, .getfield 12, 3), (4, .getfield 25, 3), (7, .iconst 1, 1), (8, .if_icmp .ge 7, 3), (11, .iconst 1, 1), (12, .goto 4, 3), (15, .iconst 0, 1), (16, .ireturn, 1)])
set_option maxRecDepth 20000 in
theorem tX5_isEmpty : ∀ q ∈ mX5_isEmpty.2, decode mX5_isEmpty.1.2.2.1 q.1 = .ok q.2 := kd_tab cX5_isEmpty mX5_isEmpty.2 (by decide +kernel)
def mX5_isHung : kw_M := ((RX5, yX5_isHung, cX5_isHung, 2, (some .boolean)), [(0, .aload_n 0, 1), (1, .getfield 29, 3), (4, .iload_n 1, 1), (5, .ishr, 1), (6, .iconst 1, 1), (7, .iand, 1), (8, .iconst 1, 1), (9, .if_icmp .ne 7, 3), (12, .iconst 1, 1), (13, .goto 4, 3), (16, .iconst 0, 1), (17, .ireturn, 1)])
set_option maxRecDepth 20000 in
theorem tX5_isHung : ∀ q ∈ mX5_isHung.2, decode mX5_isHung.1.2.2.1 q.1 = .ok q.2 := kd_tab cX5_isHung mX5_isHung.2 (by decide +kernel)
def mX5_hasRoomFor : kw_M := ((RX5, yX5_hasRoomFor, cX5_hasRoomFor, 2, (some .boolean)), [(0, .aload_n 0, 1), (1, .getfield 32, 3), (4, .iload_n 1, 1), (5, .iadd, 1), (6, .bipush 40, 2), (8, .if_icmp .gt 7, 3), (11, .iconst 1, 1), (12, .goto 4, 3), (15, .iconst 0, 1), (16, .ireturn, 1)])
set_option maxRecDepth 20000 in
theorem tX5_hasRoomFor : ∀ q ∈ mX5_hasRoomFor.2, decode mX5_hasRoomFor.1.2.2.1 q.1 = .ok q.2 := kd_tab cX5_hasRoomFor mX5_hasRoomFor.2 (by decide +kernel)
def mX5_windNow : kw_M := ((RX5, yX5_windNow, cX5_windNow, 1, (some .int)), [(0, .aload_n 0, 1), (1, .getfield 12, 3), (4, .aload_n 0, 1), (5, .getfield 35, 3), (8, .invokevirtual 38, 3), (11, .ireturn, 1)])
set_option maxRecDepth 20000 in
theorem tX5_windNow : ∀ q ∈ mX5_windNow.2, decode mX5_windNow.1.2.2.1 q.1 = .ok q.2 := kd_tab cX5_windNow mX5_windNow.2 (by decide +kernel)
def mX5_windAhead : kw_M := ((RX5, yX5_windAhead, cX5_windAhead, 2, (some .int)), [(0, .aload_n 0, 1), (1, .getfield 12, 3), (4, .aload_n 0, 1), (5, .getfield 35, 3), (8, .iload_n 1, 1), (9, .iadd, 1), (10, .invokevirtual 38, 3), (13, .ireturn, 1)])
set_option maxRecDepth 20000 in
theorem tX5_windAhead : ∀ q ∈ mX5_windAhead.2, decode mX5_windAhead.1.2.2.1 q.1 = .ok q.2 := kd_tab cX5_windAhead mX5_windAhead.2 (by decide +kernel)
def mX5_allWet : kw_M := ((RX5, yX5_allWet, cX5_allWet, 3, (some .int)), [(0, .iconst 0, 1), (1, .istore_n 1, 1), (2, .iconst 0, 1), (3, .istore_n 2, 1), (4, .iload_n 2, 1), (5, .aload_n 0, 1), (6, .getfield 12, 3), (9, .getfield 25, 3), (12, .if_icmp .ge 18, 3), (15, .iload_n 1, 1), (16, .aload_n 0, 1), (17, .getfield 22, 3), (20, .iload_n 2, 1), (21, .iaload, 1), (22, .iadd, 1), (23, .istore_n 1, 1), (24, .iinc 2 1, 3), (27, .goto (-23), 3), (30, .iload_n 1, 1), (31, .ireturn, 1)])
set_option maxRecDepth 20000 in
theorem tX5_allWet : ∀ q ∈ mX5_allWet.2, decode mX5_allWet.1.2.2.1 q.1 = .ok q.2 := kd_tab cX5_allWet mX5_allWet.2 (by decide +kernel)
def mX5_hoursToStorm : kw_M := ((RX5, yX5_hoursToStorm, cX5_hoursToStorm, 2, (some .int)), [(0, .iconst 0, 1), (1, .istore_n 1, 1), (2, .iload_n 1, 1), (3, .bipush 8, 2), (5, .if_icmp .ge 20, 3), (8, .aload_n 0, 1), (9, .iload_n 1, 1), (10, .invokevirtual 42, 3), (13, .iconst 3, 1), (14, .if_icmp .lt 5, 3), (17, .iload_n 1, 1), (18, .ireturn, 1), (19, .iinc 1 1, 3), (22, .goto (-20), 3), (25, .bipush (-9), 2), (27, .ireturn, 1)])
set_option maxRecDepth 20000 in
theorem tX5_hoursToStorm : ∀ q ∈ mX5_hoursToStorm.2, decode mX5_hoursToStorm.1.2.2.1 q.1 = .ok q.2 := kd_tab cX5_hoursToStorm mX5_hoursToStorm.2 (by decide +kernel)
def mX5_trait : kw_M := ((RX5, yX5_trait, cX5_trait, 3, (some .int)), [(0, .aload_n 0, 1), (1, .getfield 12, 3), (4, .iload_n 1, 1), (5, .invokevirtual 45, 3), (8, .ifCond .ne 5, 3), (11, .iconst 0, 1), (12, .ireturn, 1), (13, .iload_n 2, 1), (14, .tableswitch 99 0 5 #[38, 48, 58, 68, 78, 92], 38), (52, .aload_n 0, 1), (53, .getfield 12, 3), (56, .getfield 49, 3), (59, .iload_n 1, 1), (60, .iaload, 1), (61, .ireturn, 1), (62, .aload_n 0, 1), (63, .getfield 12, 3), (66, .getfield 52, 3), (69, .iload_n 1, 1), (70, .iaload, 1), (71, .ireturn, 1), (72, .aload_n 0, 1), (73, .getfield 12, 3), (76, .getfield 55, 3), (79, .iload_n 1, 1), (80, .iaload, 1), (81, .ireturn, 1), (82, .aload_n 0, 1), (83, .getfield 12, 3), (86, .getfield 58, 3), (89, .iload_n 1, 1), (90, .iaload, 1), (91, .ireturn, 1), (92, .aload_n 0, 1), (93, .iload_n 1, 1), (94, .invokevirtual 61, 3), (97, .ifCond .eq 7, 3), (100, .iconst 1, 1), (101, .goto 4, 3), (104, .iconst 0, 1), (105, .ireturn, 1), (106, .aload_n 0, 1), (107, .getfield 22, 3), (110, .iload_n 1, 1), (111, .iaload, 1), (112, .ireturn, 1), (113, .aload_n 0, 1), (114, .getfield 12, 3), (117, .iload_n 1, 1), (118, .aload_n 0, 1), (119, .invokevirtual 64, 3), (122, .invokevirtual 68, 3), (125, .ireturn, 1)])
set_option maxRecDepth 20000 in
theorem tX5_trait : ∀ q ∈ mX5_trait.2, decode mX5_trait.1.2.2.1 q.1 = .ok q.2 := kd_tab cX5_trait mX5_trait.2 (by decide +kernel)
def mX5_act : kw_M := ((RX5, yX5_act, cX5_act, 2, none), [(0, .aload_n 0, 1), (1, .iconst 1, 1), (2, .invokevirtual 72, 3), (5, .ifCond .ne 4, 3), (8, .return_, 1), (9, .aload_n 0, 1), (10, .getfield 18, 3), (13, .aload_n 0, 1), (14, .getfield 32, 3), (17, .iload_n 1, 1), (18, .iastore, 1), (19, .aload_n 0, 1), (20, .dup, 1), (21, .getfield 32, 3), (24, .iconst 1, 1), (25, .iadd, 1), (26, .putfield 32, 3), (29, .iload_n 1, 1), (30, .bipush 6, 2), (32, .if_icmp .ne 10, 3), (35, .aload_n 0, 1), (36, .invokevirtual 75, 3), (39, .goto 15, 3), (42, .aload_n 0, 1), (43, .dup, 1), (44, .getfield 29, 3), (47, .iconst 1, 1), (48, .iload_n 1, 1), (49, .ishl, 1), (50, .ixor, 1), (51, .putfield 29, 3), (54, .return_, 1)])
set_option maxRecDepth 20000 in
theorem tX5_act : ∀ q ∈ mX5_act.2, decode mX5_act.1.2.2.1 q.1 = .ok q.2 := kd_tab cX5_act mX5_act.2 (by decide +kernel)
def mX5_passHour : kw_M := ((RX5, yX5_passHour, cX5_passHour, 2, none), [(0, .aload_n 0, 1), (1, .invokevirtual 64, 3), (4, .istore_n 1, 1), (5, .aload_n 0, 1), (6, .dup, 1), (7, .getfield 78, 3), (10, .aload_n 0, 1), (11, .getfield 12, 3), (14, .aload_n 0, 1), (15, .getfield 29, 3), (18, .iload_n 1, 1), (19, .invokevirtual 81, 3), (22, .iadd, 1), (23, .putfield 78, 3), (26, .aload_n 0, 1), (27, .dup, 1), (28, .getfield 84, 3), (31, .aload_n 0, 1), (32, .getfield 12, 3), (35, .aload_n 0, 1), (36, .getfield 29, 3), (39, .iload_n 1, 1), (40, .invokevirtual 87, 3), (43, .iadd, 1), (44, .putfield 84, 3), (47, .aload_n 0, 1), (48, .getfield 22, 3), (51, .aload_n 0, 1), (52, .getfield 29, 3), (55, .iload_n 1, 1), (56, .invokestatic 90, 3), (59, .aload_n 0, 1), (60, .dup, 1), (61, .getfield 35, 3), (64, .iconst 1, 1), (65, .iadd, 1), (66, .putfield 35, 3), (69, .return_, 1)])
set_option maxRecDepth 20000 in
theorem tX5_passHour : ∀ q ∈ mX5_passHour.2, decode mX5_passHour.1.2.2.1 q.1 = .ok q.2 := kd_tab cX5_passHour mX5_passHour.2 (by decide +kernel)
def mX5_replay : kw_M := ((RX5, yX5_replay, cX5_replay, 3, none), [(0, .aload_n 0, 1), (1, .getfield 22, 3), (4, .iconst 0, 1), (5, .invokestatic 94, 3), (8, .aload_n 0, 1), (9, .iconst 0, 1), (10, .putfield 32, 3), (13, .aload_n 0, 1), (14, .iconst 0, 1), (15, .putfield 29, 3), (18, .aload_n 0, 1), (19, .iconst 0, 1), (20, .putfield 35, 3), (23, .aload_n 0, 1), (24, .iconst 0, 1), (25, .putfield 78, 3), (28, .aload_n 0, 1), (29, .iconst 0, 1), (30, .putfield 84, 3), (33, .iconst 0, 1), (34, .istore_n 2, 1), (35, .iload_n 2, 1), (36, .iload_n 1, 1), (37, .if_icmp .ge 25, 3), (40, .iload_n 2, 1), (41, .bipush 40, 2), (43, .if_icmp .ge 19, 3), (46, .aload_n 0, 1), (47, .aload_n 0, 1), (48, .getfield 18, 3), (51, .iload_n 2, 1), (52, .iaload, 1), (53, .invokevirtual 100, 3), (56, .iinc 2 1, 3), (59, .goto (-24), 3), (62, .return_, 1)])
set_option maxRecDepth 20000 in
theorem tX5_replay : ∀ q ∈ mX5_replay.2, decode mX5_replay.1.2.2.1 q.1 = .ok q.2 := kd_tab cX5_replay mX5_replay.2 (by decide +kernel)
def mX6_find : kw_M := ((RX6, yX6_find, cX6_find, 6, (some .boolean)), [(0, .aload_n 0, 1), (1, .iload_n 2, 1), (2, .iconst 3, 1), (3, .invokestatic 28, 3), (6, .putfield 34, 3), (9, .aload_n 0, 1), (10, .iload_n 3, 1), (11, .putfield 38, 3), (14, .aload_n 0, 1), (15, .iconst 0, 1), (16, .putfield 41, 3), (19, .aload_n 0, 1), (20, .getfield 21, 3), (23, .aload_n 0, 1), (24, .getfield 34, 3), (27, .iconst 0, 1), (28, .iastore, 1), (29, .aload_n 0, 1), (30, .getfield 34, 3), (33, .iconst 1, 1), (34, .isub, 1), (35, .istore 4, 2), (37, .iload 4, 2), (39, .ifCond .lt 66, 3), (42, .aload_n 1, 1), (43, .iload 4, 2), (45, .invokevirtual 45, 3), (48, .istore 5, 2), (50, .aload_n 0, 1), (51, .getfield 17, 3), (54, .iload 4, 2), (56, .aaload, 1), (57, .aload_n 1, 1), (58, .getfield 51, 3), (61, .iload 5, 2), (63, .invokevirtual 55, 3), (66, .aload_n 0, 1), (67, .getfield 21, 3), (70, .iload 4, 2), (72, .aload_n 0, 1), (73, .getfield 21, 3), (76, .iload 4, 2), (78, .iconst 1, 1), (79, .iadd, 1), (80, .iaload, 1), (81, .aload_n 1, 1), (82, .getfield 51, 3), (85, .aload_n 1, 1), (86, .getfield 51, 3), (89, .invokevirtual 59, 3), (92, .iload 5, 2), (94, .invokevirtual 65, 3), (97, .iadd, 1), (98, .iastore, 1), (99, .iinc 4 (-1), 3), (102, .goto (-65), 3), (105, .aload_n 0, 1), (106, .iconst 0, 1), (107, .aload_n 1, 1), (108, .getfield 68, 3), (111, .aload_n 1, 1), (112, .getfield 71, 3), (115, .invokevirtual 74, 3), (118, .aload_n 0, 1), (119, .getfield 41, 3), (122, .ireturn, 1)])
set_option maxRecDepth 20000 in
theorem tX6_find : ∀ q ∈ mX6_find.2, decode mX6_find.1.2.2.1 q.1 = .ok q.2 := kd_tab cX6_find mX6_find.2 (by decide +kernel)
def mX6_sailFrom : kw_M := ((RX6, yX6_sailFrom, cX6_sailFrom, 8, none), [(0, .iload_n 1, 1), (1, .aload_n 0, 1), (2, .getfield 34, 3), (5, .if_icmp .ge 8, 3), (8, .iload_n 1, 1), (9, .iconst 3, 1), (10, .if_icmp .lt 28, 3), (13, .aload_n 0, 1), (14, .iconst 1, 1), (15, .putfield 41, 3), (18, .aload_n 0, 1), (19, .iload_n 2, 1), (20, .putfield 78, 3), (23, .aload_n 0, 1), (24, .getfield 24, 3), (27, .iconst 0, 1), (28, .aload_n 0, 1), (29, .getfield 9, 3), (32, .iconst 0, 1), (33, .iconst 3, 1), (34, .invokestatic 81, 3), (37, .return_, 1), (38, .aload_n 0, 1), (39, .getfield 17, 3), (42, .iload_n 1, 1), (43, .aaload, 1), (44, .astore 4, 2), (46, .iconst 0, 1), (47, .istore 5, 2), (49, .iload 5, 2), (51, .aload 4, 2), (53, .getfield 87, 3), (56, .if_icmp .ge 100, 3), (59, .iload_n 2, 1), (60, .aload 4, 2), (62, .iload 5, 2), (64, .invokevirtual 90, 3), (67, .iadd, 1), (68, .istore 6, 2), (70, .aload_n 0, 1), (71, .getfield 41, 3), (74, .ifCond .eq 24, 3), (77, .iload 6, 2), (79, .aload_n 0, 1), (80, .getfield 21, 3), (83, .iload_n 1, 1), (84, .iconst 1, 1), (85, .iadd, 1), (86, .iaload, 1), (87, .iadd, 1), (88, .aload_n 0, 1), (89, .getfield 78, 3), (92, .if_icmp .gt 6, 3), (95, .goto 55, 3), (98, .iload_n 3, 1), (99, .aload 4, 2), (101, .iload 5, 2), (103, .invokevirtual 93, 3), (106, .iadd, 1), (107, .istore 7, 2), (109, .iload 7, 2), (111, .aload_n 0, 1), (112, .getfield 38, 3), (115, .if_icmp .gt 35, 3), (118, .iload 7, 2), (120, .aload_n 0, 1), (121, .getfield 38, 3), (124, .ineg, 1), (125, .if_icmp .ge 6, 3), (128, .goto 22, 3), (131, .aload_n 0, 1), (132, .getfield 24, 3), (135, .iload_n 1, 1), (136, .iload 5, 2), (138, .iastore, 1), (139, .aload_n 0, 1), (140, .iload_n 1, 1), (141, .iconst 1, 1), (142, .iadd, 1), (143, .iload 6, 2), (145, .iload 7, 2), (147, .invokevirtual 74, 3), (150, .iinc 5 1, 3), (153, .goto (-104), 3), (156, .return_, 1)])
set_option maxRecDepth 20000 in
theorem tX6_sailFrom : ∀ q ∈ mX6_sailFrom.2, decode mX6_sailFrom.1.2.2.1 q.1 = .ok q.2 := kd_tab cX6_sailFrom mX6_sailFrom.2 (by decide +kernel)
def mX7_row : kw_M := ((RX7, yX7_row, cX7_row, 3, (some .int)), [(0, .aload_n 0, 1), (1, .aload_n 0, 1), (2, .getfield 14, 3), (5, .iload_n 1, 1), (6, .iload_n 2, 1), (7, .iconst 0, 1), (8, .invokevirtual 69, 3), (11, .ireturn, 1)])
set_option maxRecDepth 20000 in
theorem tX7_row : ∀ q ∈ mX7_row.2, decode mX7_row.1.2.2.1 q.1 = .ok q.2 := kd_tab cX7_row mX7_row.2 (by decide +kernel)
def mX7_lay : kw_M := ((RX7, yX7_lay, cX7_lay, 6, (some .int)), [(0, .aload_n 0, 1), (1, .getfield 14, 3), (4, .iload_n 1, 1), (5, .invokevirtual 73, 3), (8, .ifCond .ne 5, 3), (11, .iconst (-1), 1), (12, .ireturn, 1), (13, .aload_n 0, 1), (14, .getfield 14, 3), (17, .iload_n 1, 1), (18, .iload_n 2, 1), (19, .invokevirtual 77, 3), (22, .istore 4, 2), (24, .iload 4, 2), (26, .ifCond .eq 13, 3), (29, .aload_n 0, 1), (30, .getfield 55, 3), (33, .iload 4, 2), (35, .invokevirtual 81, 3), (38, .ireturn, 1), (39, .aload_n 0, 1), (40, .getfield 14, 3), (43, .iload_n 1, 1), (44, .iload_n 2, 1), (45, .invokevirtual 85, 3), (48, .istore 5, 2), (50, .aload_n 0, 1), (51, .getfield 14, 3), (54, .iload_n 1, 1), (55, .iload_n 2, 1), (56, .iload_n 3, 1), (57, .invokevirtual 88, 3), (60, .aload_n 0, 1), (61, .getfield 55, 3), (64, .iload 5, 2), (66, .invokevirtual 92, 3), (69, .ireturn, 1)])
set_option maxRecDepth 20000 in
theorem tX7_lay : ∀ q ∈ mX7_lay.2, decode mX7_lay.1.2.2.1 q.1 = .ok q.2 := kd_tab cX7_lay mX7_lay.2 (by decide +kernel)
def mX7_at : kw_M := ((RX7, yX7_at, cX7_at, 4, (some .int)), [(0, .aload_n 0, 1), (1, .getfield 14, 3), (4, .iload_n 1, 1), (5, .invokevirtual 73, 3), (8, .ifCond .ne 5, 3), (11, .iconst (-1), 1), (12, .ireturn, 1), (13, .aload_n 0, 1), (14, .getfield 14, 3), (17, .iload_n 1, 1), (18, .iload_n 2, 1), (19, .invokevirtual 77, 3), (22, .istore_n 3, 1), (23, .iload_n 3, 1), (24, .ifCond .eq 12, 3), (27, .aload_n 0, 1), (28, .getfield 55, 3), (31, .iload_n 3, 1), (32, .invokevirtual 81, 3), (35, .ireturn, 1), (36, .aload_n 0, 1), (37, .getfield 55, 3), (40, .aload_n 0, 1), (41, .getfield 14, 3), (44, .iload_n 1, 1), (45, .iload_n 2, 1), (46, .invokevirtual 85, 3), (49, .invokevirtual 92, 3), (52, .ireturn, 1)])
set_option maxRecDepth 20000 in
theorem tX7_at : ∀ q ∈ mX7_at.2, decode mX7_at.1.2.2.1 q.1 = .ok q.2 := kd_tab cX7_at mX7_at.2 (by decide +kernel)
def mX7_tear : kw_M := ((RX7, yX7_tear, cX7_tear, 2, (some .int)), [(0, .aload_n 0, 1), (1, .getfield 14, 3), (4, .iload_n 1, 1), (5, .invokevirtual 73, 3), (8, .ifCond .ne 5, 3), (11, .iconst (-1), 1), (12, .ireturn, 1), (13, .aload_n 0, 1), (14, .getfield 14, 3), (17, .iload_n 1, 1), (18, .invokevirtual 95, 3), (21, .ifCond .eq 12, 3), (24, .aload_n 0, 1), (25, .getfield 55, 3), (28, .iconst 1, 1), (29, .invokevirtual 81, 3), (32, .ireturn, 1), (33, .aload_n 0, 1), (34, .getfield 14, 3), (37, .iload_n 1, 1), (38, .invokevirtual 98, 3), (41, .iconst 1, 1), (42, .ireturn, 1)])
set_option maxRecDepth 20000 in
theorem tX7_tear : ∀ q ∈ mX7_tear.2, decode mX7_tear.1.2.2.1 q.1 = .ok q.2 := kd_tab cX7_tear mX7_tear.2 (by decide +kernel)
def mX7_copy : kw_M := ((RX7, yX7_copy, cX7_copy, 6, (some .int)), [(0, .aload_n 0, 1), (1, .getfield 14, 3), (4, .iload_n 1, 1), (5, .invokevirtual 73, 3), (8, .ifCond .eq 14, 3), (11, .aload_n 0, 1), (12, .getfield 14, 3), (15, .iload_n 3, 1), (16, .invokevirtual 73, 3), (19, .ifCond .ne 5, 3), (22, .iconst (-1), 1), (23, .ireturn, 1), (24, .iload 5, 2), (26, .ifCond .ge 12, 3), (29, .aload_n 0, 1), (30, .getfield 55, 3), (33, .iconst 5, 1), (34, .invokevirtual 81, 3), (37, .ireturn, 1), (38, .aload_n 0, 1), (39, .getfield 14, 3), (42, .iload_n 1, 1), (43, .invokevirtual 95, 3), (46, .ifCond .ne 14, 3), (49, .aload_n 0, 1), (50, .getfield 14, 3), (53, .iload_n 3, 1), (54, .invokevirtual 95, 3), (57, .ifCond .eq 12, 3), (60, .aload_n 0, 1), (61, .getfield 55, 3), (64, .iconst 1, 1), (65, .invokevirtual 81, 3), (68, .ireturn, 1), (69, .aload_n 0, 1), (70, .getfield 14, 3), (73, .iload_n 1, 1), (74, .iload_n 2, 1), (75, .iload 5, 2), (77, .invokevirtual 102, 3), (80, .ifCond .eq 18, 3), (83, .aload_n 0, 1), (84, .getfield 14, 3), (87, .iload_n 3, 1), (88, .iload 4, 2), (90, .iload 5, 2), (92, .invokevirtual 102, 3), (95, .ifCond .ne 12, 3), (98, .aload_n 0, 1), (99, .getfield 55, 3), (102, .iconst 2, 1), (103, .invokevirtual 81, 3), (106, .ireturn, 1), (107, .aload_n 0, 1), (108, .getfield 14, 3), (111, .iload_n 1, 1), (112, .iload_n 2, 1), (113, .iload_n 3, 1), (114, .iload 4, 2), (116, .iload 5, 2), (118, .invokevirtual 106, 3), (121, .iconst 1, 1), (122, .ireturn, 1)])
set_option maxRecDepth 20000 in
theorem tX7_copy : ∀ q ∈ mX7_copy.2, decode mX7_copy.1.2.2.1 q.1 = .ok q.2 := kd_tab cX7_copy mX7_copy.2 (by decide +kernel)
def mX7_mean : kw_M := ((RX7, yX7_mean, cX7_mean, 6, (some .int)), [(0, .aload_n 0, 1), (1, .getfield 14, 3), (4, .iload_n 1, 1), (5, .invokevirtual 73, 3), (8, .ifCond .ne 5, 3), (11, .iconst (-1), 1), (12, .ireturn, 1), (13, .aload_n 0, 1), (14, .getfield 14, 3), (17, .iload_n 1, 1), (18, .invokevirtual 95, 3), (21, .ifCond .eq 12, 3), (24, .aload_n 0, 1), (25, .getfield 55, 3), (28, .iconst 1, 1), (29, .invokevirtual 81, 3), (32, .ireturn, 1), (33, .aload_n 0, 1), (34, .getfield 14, 3), (37, .iload_n 1, 1), (38, .invokevirtual 110, 3), (41, .istore_n 2, 1), (42, .iload_n 2, 1), (43, .iconst 1, 1), (44, .if_icmp .ge 12, 3), (47, .aload_n 0, 1), (48, .getfield 55, 3), (51, .iconst 4, 1), (52, .invokevirtual 81, 3), (55, .ireturn, 1), (56, .lconst 0, 1), (57, .lstore_n 3, 1), (58, .iconst 0, 1), (59, .istore 5, 2), (61, .iload 5, 2), (63, .iload_n 2, 1), (64, .if_icmp .ge 23, 3), (67, .lload_n 3, 1), (68, .aload_n 0, 1), (69, .getfield 14, 3), (72, .iload_n 1, 1), (73, .iload 5, 2), (75, .invokevirtual 85, 3), (78, .i2l, 1), (79, .ladd, 1), (80, .lstore_n 3, 1), (81, .iinc 5 1, 3), (84, .goto (-23), 3), (87, .aload_n 0, 1), (88, .getfield 55, 3), (91, .lload_n 3, 1), (92, .iload_n 2, 1), (93, .i2l, 1), (94, .ldiv, 1), (95, .l2i, 1), (96, .invokevirtual 92, 3), (99, .ireturn, 1)])
set_option maxRecDepth 20000 in
theorem tX7_mean : ∀ q ∈ mX7_mean.2, decode mX7_mean.1.2.2.1 q.1 = .ok q.2 := kd_tab cX7_mean mX7_mean.2 (by decide +kernel)
def mX7_text : kw_M := ((RX7, yX7_text, cX7_text, 3, (some .int)), [(0, .aload_n 0, 1), (1, .aload_n 0, 1), (2, .getfield 18, 3), (5, .iload_n 1, 1), (6, .iload_n 2, 1), (7, .bipush 32, 2), (9, .invokevirtual 69, 3), (12, .ireturn, 1)])
set_option maxRecDepth 20000 in
theorem tX7_text : ∀ q ∈ mX7_text.2, decode mX7_text.1.2.2.1 q.1 = .ok q.2 := kd_tab cX7_text mX7_text.2 (by decide +kernel)
def mX7_put : kw_M := ((RX7, yX7_put, cX7_put, 6, (some .int)), [(0, .aload_n 0, 1), (1, .getfield 18, 3), (4, .iload_n 1, 1), (5, .invokevirtual 73, 3), (8, .ifCond .ne 5, 3), (11, .iconst (-1), 1), (12, .ireturn, 1), (13, .aload_n 0, 1), (14, .getfield 18, 3), (17, .iload_n 1, 1), (18, .iload_n 2, 1), (19, .invokevirtual 77, 3), (22, .istore 4, 2), (24, .iload 4, 2), (26, .ifCond .eq 13, 3), (29, .aload_n 0, 1), (30, .getfield 55, 3), (33, .iload 4, 2), (35, .invokevirtual 81, 3), (38, .ireturn, 1), (39, .aload_n 0, 1), (40, .getfield 18, 3), (43, .iload_n 1, 1), (44, .iload_n 2, 1), (45, .invokevirtual 85, 3), (48, .istore 5, 2), (50, .aload_n 0, 1), (51, .getfield 18, 3), (54, .iload_n 1, 1), (55, .iload_n 2, 1), (56, .iload_n 3, 1), (57, .i2b, 1), (58, .invokevirtual 88, 3), (61, .iload 5, 2), (63, .sipush 1000, 3), (66, .iadd, 1), (67, .ireturn, 1)])
set_option maxRecDepth 20000 in
theorem tX7_put : ∀ q ∈ mX7_put.2, decode mX7_put.1.2.2.1 q.1 = .ok q.2 := kd_tab cX7_put mX7_put.2 (by decide +kernel)
def mX7_fault : kw_M := ((RX7, yX7_fault, cX7_fault, 2, (some .int)), [(0, .aload_n 0, 1), (1, .getfield 18, 3), (4, .iload_n 1, 1), (5, .invokevirtual 73, 3), (8, .ifCond .ne 5, 3), (11, .iconst (-1), 1), (12, .ireturn, 1), (13, .aload_n 0, 1), (14, .getfield 18, 3), (17, .iload_n 1, 1), (18, .invokevirtual 95, 3), (21, .ifCond .eq 12, 3), (24, .aload_n 0, 1), (25, .getfield 55, 3), (28, .iconst 1, 1), (29, .invokevirtual 81, 3), (32, .ireturn, 1), (33, .aload_n 0, 1), (34, .getfield 24, 3), (37, .aload_n 0, 1), (38, .getfield 18, 3), (41, .iload_n 1, 1), (42, .invokevirtual 113, 3), (45, .ireturn, 1)])
set_option maxRecDepth 20000 in
theorem tX7_fault : ∀ q ∈ mX7_fault.2, decode mX7_fault.1.2.2.1 q.1 = .ok q.2 := kd_tab cX7_fault mX7_fault.2 (by decide +kernel)
def mX7_town : kw_M := ((RX7, yX7_town, cX7_town, 3, (some .int)), [(0, .aload_n 0, 1), (1, .getfield 18, 3), (4, .iload_n 1, 1), (5, .invokevirtual 73, 3), (8, .ifCond .ne 5, 3), (11, .iconst (-1), 1), (12, .ireturn, 1), (13, .aload_n 0, 1), (14, .getfield 18, 3), (17, .iload_n 1, 1), (18, .invokevirtual 95, 3), (21, .ifCond .eq 12, 3), (24, .aload_n 0, 1), (25, .getfield 55, 3), (28, .iconst 1, 1), (29, .invokevirtual 81, 3), (32, .ireturn, 1), (33, .aload_n 0, 1), (34, .getfield 24, 3), (37, .aload_n 0, 1), (38, .getfield 18, 3), (41, .iload_n 1, 1), (42, .invokevirtual 113, 3), (45, .bipush (-9), 2), (47, .if_icmp .eq 6, 3), (50, .bipush (-4), 2), (52, .ireturn, 1), (53, .aload_n 0, 1), (54, .getfield 31, 3), (57, .getfield 117, 3), (60, .aload_n 0, 1), (61, .getfield 24, 3), (64, .getfield 121, 3), (67, .invokevirtual 124, 3), (70, .aload_n 0, 1), (71, .getfield 31, 3), (74, .iconst 0, 1), (75, .invokevirtual 130, 3), (78, .iconst 0, 1), (79, .istore_n 2, 1), (80, .iload_n 2, 1), (81, .iconst 3, 1), (82, .if_icmp .ge 17, 3), (85, .aload_n 0, 1), (86, .getfield 35, 3), (89, .iload_n 2, 1), (90, .invokevirtual 98, 3), (93, .iinc 2 1, 3), (96, .goto (-16), 3), (99, .aload_n 0, 1), (100, .getfield 31, 3), (103, .getfield 117, 3), (106, .getfield 133, 3), (109, .ireturn, 1)])
set_option maxRecDepth 20000 in
theorem tX7_town : ∀ q ∈ mX7_town.2, decode mX7_town.1.2.2.1 q.1 = .ok q.2 := kd_tab cX7_town mX7_town.2 (by decide +kernel)
def mX7_line : kw_M := ((RX7, yX7_line, cX7_line, 3, (some .int)), [(0, .aload_n 0, 1), (1, .getfield 31, 3), (4, .getfield 117, 3), (7, .iload_n 1, 1), (8, .invokevirtual 137, 3), (11, .ifCond .eq 13, 3), (14, .iload_n 2, 1), (15, .ifCond .lt 9, 3), (18, .iload_n 2, 1), (19, .bipush 6, 2), (21, .if_icmp .le 5, 3), (24, .iconst (-1), 1), (25, .ireturn, 1), (26, .aload_n 0, 1), (27, .getfield 55, 3), (30, .aload_n 0, 1), (31, .getfield 31, 3), (34, .iload_n 1, 1), (35, .iload_n 2, 1), (36, .invokevirtual 140, 3), (39, .invokevirtual 92, 3), (42, .ireturn, 1)])
set_option maxRecDepth 20000 in
theorem tX7_line : ∀ q ∈ mX7_line.2, decode mX7_line.1.2.2.1 q.1 = .ok q.2 := kd_tab cX7_line mX7_line.2 (by decide +kernel)
def mX7_mark : kw_M := ((RX7, yX7_mark, cX7_mark, 4, (some .int)), [(0, .aload_n 0, 1), (1, .getfield 31, 3), (4, .getfield 117, 3), (7, .astore_n 3, 1), (8, .aload_n 3, 1), (9, .iload_n 1, 1), (10, .invokevirtual 137, 3), (13, .ifCond .eq 13, 3), (16, .iload_n 2, 1), (17, .ifCond .le 9, 3), (20, .iload_n 2, 1), (21, .bipush 6, 2), (23, .if_icmp .lt 5, 3), (26, .iconst (-1), 1), (27, .ireturn, 1), (28, .aload_n 3, 1), (29, .getfield 143, 3), (32, .iload_n 1, 1), (33, .iaload, 1), (34, .iload_n 2, 1), (35, .invokestatic 146, 3), (38, .ifCond .ne 12, 3), (41, .aload_n 0, 1), (42, .getfield 55, 3), (45, .iconst 3, 1), (46, .invokevirtual 81, 3), (49, .ireturn, 1), (50, .iload_n 2, 1), (51, .tableswitch 67 1 4 #[29, 36, 44, 61], 29), (80, .aload_n 3, 1), (81, .iload_n 1, 1), (82, .iconst 5, 1), (83, .invokevirtual 150, 3), (86, .ireturn, 1), (87, .aload_n 0, 1), (88, .getfield 31, 3), (91, .invokevirtual 153, 3), (94, .ireturn, 1), (95, .aload_n 0, 1), (96, .getfield 31, 3), (99, .getfield 157, 3), (102, .iconst 1, 1), (103, .iload_n 1, 1), (104, .ishl, 1), (105, .iconst (-1), 1), (106, .ixor, 1), (107, .iand, 1), (108, .invokestatic 160, 3), (111, .ireturn, 1), (112, .aload_n 3, 1), (113, .iload_n 1, 1), (114, .invokevirtual 165, 3), (117, .ireturn, 1), (118, .iconst 4, 1), (119, .aload_n 3, 1), (120, .getfield 168, 3), (123, .iload_n 1, 1), (124, .iaload, 1), (125, .aload_n 0, 1), (126, .getfield 31, 3), (129, .invokevirtual 171, 3), (132, .invokestatic 174, 3), (135, .aload_n 3, 1), (136, .iload_n 1, 1), (137, .aload_n 0, 1), (138, .getfield 31, 3), (141, .invokevirtual 171, 3), (144, .invokevirtual 150, 3), (147, .isub, 1), (148, .ireturn, 1)])
set_option maxRecDepth 20000 in
theorem tX7_mark : ∀ q ∈ mX7_mark.2, decode mX7_mark.1.2.2.1 q.1 = .ok q.2 := kd_tab cX7_mark mX7_mark.2 (by decide +kernel)
def mX7_wind : kw_M := ((RX7, yX7_wind, cX7_wind, 2, (some .int)), [(0, .iload_n 1, 1), (1, .ifCond .lt 10, 3), (4, .iload_n 1, 1), (5, .sipush 999, 3), (8, .if_icmp .le 5, 3), (11, .iconst (-1), 1), (12, .ireturn, 1), (13, .aload_n 0, 1), (14, .getfield 31, 3), (17, .invokevirtual 178, 3), (20, .ifCond .eq 6, 3), (23, .bipush (-4), 2), (25, .ireturn, 1), (26, .aload_n 0, 1), (27, .getfield 31, 3), (30, .getfield 117, 3), (33, .iload_n 1, 1), (34, .invokevirtual 182, 3), (37, .ireturn, 1)])
set_option maxRecDepth 20000 in
theorem tX7_wind : ∀ q ∈ mX7_wind.2, decode mX7_wind.1.2.2.1 q.1 = .ok q.2 := kd_tab cX7_wind mX7_wind.2 (by decide +kernel)
def mX7_hang : kw_M := ((RX7, yX7_hang, cX7_hang, 2, (some .int)), [(0, .aload_n 0, 1), (1, .getfield 31, 3), (4, .getfield 117, 3), (7, .iload_n 1, 1), (8, .invokevirtual 137, 3), (11, .ifCond .ne 5, 3), (14, .iconst (-1), 1), (15, .ireturn, 1), (16, .aload_n 0, 1), (17, .getfield 31, 3), (20, .iload_n 1, 1), (21, .invokevirtual 185, 3), (24, .ifCond .eq 6, 3), (27, .bipush (-4), 2), (29, .ireturn, 1), (30, .aload_n 0, 1), (31, .getfield 31, 3), (34, .iconst 1, 1), (35, .invokevirtual 188, 3), (38, .ifCond .ne 6, 3), (41, .bipush (-2), 2), (43, .ireturn, 1), (44, .aload_n 0, 1), (45, .getfield 31, 3), (48, .iload_n 1, 1), (49, .invokevirtual 191, 3), (52, .aload_n 0, 1), (53, .getfield 31, 3), (56, .getfield 157, 3), (59, .invokestatic 160, 3), (62, .ireturn, 1)])
set_option maxRecDepth 20000 in
theorem tX7_hang : ∀ q ∈ mX7_hang.2, decode mX7_hang.1.2.2.1 q.1 = .ok q.2 := kd_tab cX7_hang mX7_hang.2 (by decide +kernel)
def mX7_take : kw_M := ((RX7, yX7_take, cX7_take, 2, (some .int)), [(0, .aload_n 0, 1), (1, .getfield 31, 3), (4, .getfield 117, 3), (7, .iload_n 1, 1), (8, .invokevirtual 137, 3), (11, .ifCond .ne 5, 3), (14, .iconst (-1), 1), (15, .ireturn, 1), (16, .aload_n 0, 1), (17, .getfield 31, 3), (20, .iload_n 1, 1), (21, .invokevirtual 185, 3), (24, .ifCond .ne 6, 3), (27, .bipush (-4), 2), (29, .ireturn, 1), (30, .aload_n 0, 1), (31, .getfield 31, 3), (34, .iconst 1, 1), (35, .invokevirtual 188, 3), (38, .ifCond .ne 6, 3), (41, .bipush (-2), 2), (43, .ireturn, 1), (44, .aload_n 0, 1), (45, .getfield 31, 3), (48, .iload_n 1, 1), (49, .invokevirtual 191, 3), (52, .aload_n 0, 1), (53, .getfield 31, 3), (56, .getfield 194, 3), (59, .iload_n 1, 1), (60, .iaload, 1), (61, .ireturn, 1)])
set_option maxRecDepth 20000 in
theorem tX7_take : ∀ q ∈ mX7_take.2, decode mX7_take.1.2.2.1 q.1 = .ok q.2 := kd_tab cX7_take mX7_take.2 (by decide +kernel)
def mX7_hour : kw_M := ((RX7, yX7_hour, cX7_hour, 1, (some .int)), [(0, .aload_n 0, 1), (1, .getfield 31, 3), (4, .invokevirtual 178, 3), (7, .ifCond .eq 6, 3), (10, .bipush (-4), 2), (12, .ireturn, 1), (13, .aload_n 0, 1), (14, .getfield 31, 3), (17, .iconst 1, 1), (18, .invokevirtual 188, 3), (21, .ifCond .ne 6, 3), (24, .bipush (-2), 2), (26, .ireturn, 1), (27, .aload_n 0, 1), (28, .getfield 31, 3), (31, .bipush 6, 2), (33, .invokevirtual 191, 3), (36, .aload_n 0, 1), (37, .getfield 55, 3), (40, .aload_n 0, 1), (41, .getfield 31, 3), (44, .getfield 197, 3), (47, .i2l, 1), (48, .invokevirtual 200, 3), (51, .aload_n 0, 1), (52, .getfield 55, 3), (55, .aload_n 0, 1), (56, .getfield 31, 3), (59, .getfield 204, 3), (62, .invokevirtual 92, 3), (65, .ireturn, 1)])
set_option maxRecDepth 20000 in
theorem tX7_hour : ∀ q ∈ mX7_hour.2, decode mX7_hour.1.2.2.1 q.1 = .ok q.2 := kd_tab cX7_hour mX7_hour.2 (by decide +kernel)
def mX7_undo : kw_M := ((RX7, yX7_undo, cX7_undo, 3, (some .int)), [(0, .iload_n 1, 1), (1, .ifCond .lt 14, 3), (4, .iload_n 1, 1), (5, .aload_n 0, 1), (6, .getfield 31, 3), (9, .getfield 207, 3), (12, .if_icmp .le 5, 3), (15, .iconst (-1), 1), (16, .ireturn, 1), (17, .aload_n 0, 1), (18, .getfield 31, 3), (21, .getfield 207, 3), (24, .iload_n 1, 1), (25, .isub, 1), (26, .istore_n 2, 1), (27, .aload_n 0, 1), (28, .getfield 31, 3), (31, .iload_n 1, 1), (32, .invokevirtual 130, 3), (35, .iload_n 2, 1), (36, .ireturn, 1)])
set_option maxRecDepth 20000 in
theorem tX7_undo : ∀ q ∈ mX7_undo.2, decode mX7_undo.1.2.2.1 q.1 = .ok q.2 := kd_tab cX7_undo mX7_undo.2 (by decide +kernel)
def mX7_keep : kw_M := ((RX7, yX7_keep, cX7_keep, 3, (some .int)), [(0, .aload_n 0, 1), (1, .getfield 35, 3), (4, .iload_n 1, 1), (5, .invokevirtual 73, 3), (8, .ifCond .ne 5, 3), (11, .iconst (-1), 1), (12, .ireturn, 1), (13, .aload_n 0, 1), (14, .getfield 31, 3), (17, .invokevirtual 178, 3), (20, .ifCond .eq 6, 3), (23, .bipush (-4), 2), (25, .ireturn, 1), (26, .aload_n 0, 1), (27, .getfield 35, 3), (30, .iload_n 1, 1), (31, .aload_n 0, 1), (32, .getfield 31, 3), (35, .getfield 207, 3), (38, .iconst 0, 1), (39, .invokevirtual 210, 3), (42, .iconst 0, 1), (43, .istore_n 2, 1), (44, .iload_n 2, 1), (45, .aload_n 0, 1), (46, .getfield 31, 3), (49, .getfield 207, 3), (52, .if_icmp .ge 27, 3), (55, .aload_n 0, 1), (56, .getfield 35, 3), (59, .iload_n 1, 1), (60, .iload_n 2, 1), (61, .aload_n 0, 1), (62, .getfield 31, 3), (65, .getfield 213, 3), (68, .iload_n 2, 1), (69, .iaload, 1), (70, .invokevirtual 88, 3), (73, .iinc 2 1, 3), (76, .goto (-32), 3), (79, .aload_n 0, 1), (80, .getfield 31, 3), (83, .getfield 207, 3), (86, .ireturn, 1)])
set_option maxRecDepth 20000 in
theorem tX7_keep : ∀ q ∈ mX7_keep.2, decode mX7_keep.1.2.2.1 q.1 = .ok q.2 := kd_tab cX7_keep mX7_keep.2 (by decide +kernel)
def mX7_on : kw_M := ((RX7, yX7_on, cX7_on, 4, (some .int)), [(0, .aload_n 0, 1), (1, .getfield 35, 3), (4, .iload_n 1, 1), (5, .invokevirtual 73, 3), (8, .ifCond .ne 5, 3), (11, .iconst (-1), 1), (12, .ireturn, 1), (13, .aload_n 0, 1), (14, .getfield 35, 3), (17, .iload_n 1, 1), (18, .invokevirtual 95, 3), (21, .ifCond .eq 12, 3), (24, .aload_n 0, 1), (25, .getfield 55, 3), (28, .iconst 1, 1), (29, .invokevirtual 81, 3), (32, .ireturn, 1), (33, .aload_n 0, 1), (34, .getfield 35, 3), (37, .iload_n 1, 1), (38, .invokevirtual 110, 3), (41, .istore_n 2, 1), (42, .iconst 0, 1), (43, .istore_n 3, 1), (44, .iload_n 3, 1), (45, .iload_n 2, 1), (46, .if_icmp .ge 27, 3), (49, .aload_n 0, 1), (50, .getfield 31, 3), (53, .getfield 213, 3), (56, .iload_n 3, 1), (57, .aload_n 0, 1), (58, .getfield 35, 3), (61, .iload_n 1, 1), (62, .iload_n 3, 1), (63, .invokevirtual 85, 3), (66, .iastore, 1), (67, .iinc 3 1, 3), (70, .goto (-26), 3), (73, .aload_n 0, 1), (74, .getfield 31, 3), (77, .iload_n 2, 1), (78, .invokevirtual 130, 3), (81, .iload_n 2, 1), (82, .ireturn, 1)])
set_option maxRecDepth 20000 in
theorem tX7_on : ∀ q ∈ mX7_on.2, decode mX7_on.1.2.2.1 q.1 = .ok q.2 := kd_tab cX7_on mX7_on.2 (by decide +kernel)
def mX7_goes : kw_M := ((RX7, yX7_goes, cX7_goes, 3, (some .int)), [(0, .aload_n 0, 1), (1, .getfield 31, 3), (4, .getfield 117, 3), (7, .iload_n 1, 1), (8, .invokevirtual 216, 3), (11, .ifCond .ne 5, 3), (14, .iconst (-1), 1), (15, .ireturn, 1), (16, .aload_n 0, 1), (17, .getfield 31, 3), (20, .invokevirtual 171, 3), (23, .istore_n 2, 1), (24, .aload_n 0, 1), (25, .getfield 55, 3), (28, .aload_n 0, 1), (29, .getfield 31, 3), (32, .getfield 117, 3), (35, .iload_n 1, 1), (36, .iload_n 2, 1), (37, .invokevirtual 219, 3), (40, .i2l, 1), (41, .invokevirtual 200, 3), (44, .aload_n 0, 1), (45, .getfield 55, 3), (48, .aload_n 0, 1), (49, .getfield 31, 3), (52, .getfield 117, 3), (55, .iload_n 1, 1), (56, .iload_n 2, 1), (57, .invokevirtual 222, 3), (60, .invokevirtual 92, 3), (63, .ireturn, 1)])
set_option maxRecDepth 20000 in
theorem tX7_goes : ∀ q ∈ mX7_goes.2, decode mX7_goes.1.2.2.1 q.1 = .ok q.2 := kd_tab cX7_goes mX7_goes.2 (by decide +kernel)
def mX7_even : kw_M := ((RX7, yX7_even, cX7_even, 7, (some .int)), [(0, .iload_n 1, 1), (1, .bipush (-99), 2), (3, .if_icmp .lt 9, 3), (6, .iload_n 1, 1), (7, .bipush 99, 2), (9, .if_icmp .le 5, 3), (12, .iconst (-1), 1), (13, .ireturn, 1), (14, .aload_n 0, 1), (15, .getfield 31, 3), (18, .invokevirtual 178, 3), (21, .ifCond .eq 6, 3), (24, .bipush (-4), 2), (26, .ireturn, 1), (27, .aload_n 0, 1), (28, .getfield 41, 3), (31, .aload_n 0, 1), (32, .getfield 31, 3), (35, .getfield 117, 3), (38, .aload_n 0, 1), (39, .getfield 31, 3), (42, .invokevirtual 171, 3), (45, .invokevirtual 225, 3), (48, .iconst 0, 1), (49, .istore_n 2, 1), (50, .bipush (-9), 2), (52, .istore_n 3, 1), (53, .iconst 0, 1), (54, .istore 4, 2), (56, .iconst 0, 1), (57, .istore 5, 2), (59, .iload 5, 2), (61, .aload_n 0, 1), (62, .getfield 41, 3), (65, .getfield 229, 3), (68, .if_icmp .ge 61, 3), (71, .aload_n 0, 1), (72, .getfield 41, 3), (75, .iload 5, 2), (77, .iload_n 1, 1), (78, .iconst 0, 1), (79, .invokevirtual 232, 3), (82, .ifCond .ne 6, 3), (85, .goto 38, 3), (88, .aload_n 0, 1), (89, .getfield 31, 3), (92, .getfield 117, 3), (95, .iload 5, 2), (97, .invokevirtual 235, 3), (100, .istore 6, 2), (102, .iload_n 2, 1), (103, .ifCond .eq 10, 3), (106, .iload 6, 2), (108, .iload 4, 2), (110, .if_icmp .ge 10, 3), (113, .iload 5, 2), (115, .istore_n 3, 1), (116, .iload 6, 2), (118, .istore 4, 2), (120, .iinc 2 1, 3), (123, .iinc 5 1, 3), (126, .goto (-67), 3), (129, .aload_n 0, 1), (130, .getfield 55, 3), (133, .iload_n 2, 1), (134, .i2l, 1), (135, .invokevirtual 200, 3), (138, .aload_n 0, 1), (139, .getfield 55, 3), (142, .iload_n 3, 1), (143, .invokevirtual 92, 3), (146, .ireturn, 1)])
set_option maxRecDepth 20000 in
theorem tX7_even : ∀ q ∈ mX7_even.2, decode mX7_even.1.2.2.1 q.1 = .ok q.2 := kd_tab cX7_even mX7_even.2 (by decide +kernel)
def mX7_fast : kw_M := ((RX7, yX7_fast, cX7_fast, 4, (some .int)), [(0, .iload_n 1, 1), (1, .ifCond .lt 9, 3), (4, .iload_n 1, 1), (5, .bipush 99, 2), (7, .if_icmp .le 5, 3), (10, .iconst (-1), 1), (11, .ireturn, 1), (12, .aload_n 0, 1), (13, .getfield 31, 3), (16, .invokevirtual 178, 3), (19, .ifCond .eq 6, 3), (22, .bipush (-4), 2), (24, .ireturn, 1), (25, .aload_n 0, 1), (26, .getfield 41, 3), (29, .aload_n 0, 1), (30, .getfield 31, 3), (33, .getfield 117, 3), (36, .aload_n 0, 1), (37, .getfield 31, 3), (40, .invokevirtual 171, 3), (43, .invokevirtual 225, 3), (46, .iconst 0, 1), (47, .istore_n 2, 1), (48, .iconst 1, 1), (49, .istore_n 3, 1), (50, .iload_n 3, 1), (51, .aload_n 0, 1), (52, .getfield 41, 3), (55, .getfield 229, 3), (58, .if_icmp .ge 45, 3), (61, .aload_n 0, 1), (62, .getfield 31, 3), (65, .getfield 117, 3), (68, .iload_n 3, 1), (69, .invokevirtual 235, 3), (72, .iload_n 1, 1), (73, .if_icmp .gt 24, 3), (76, .aload_n 0, 1), (77, .getfield 41, 3), (80, .iload_n 3, 1), (81, .invokevirtual 238, 3), (84, .aload_n 0, 1), (85, .getfield 41, 3), (88, .iload_n 2, 1), (89, .invokevirtual 238, 3), (92, .if_icmp .le 5, 3), (95, .iload_n 3, 1), (96, .istore_n 2, 1), (97, .iinc 3 1, 3), (100, .goto (-50), 3), (103, .aload_n 0, 1), (104, .getfield 55, 3), (107, .iload_n 2, 1), (108, .invokevirtual 92, 3), (111, .pop, 1), (112, .aload_n 0, 1), (113, .getfield 41, 3), (116, .iload_n 2, 1), (117, .invokevirtual 238, 3), (120, .ireturn, 1)])
set_option maxRecDepth 20000 in
theorem tX7_fast : ∀ q ∈ mX7_fast.2, decode mX7_fast.1.2.2.1 q.1 = .ok q.2 := kd_tab cX7_fast mX7_fast.2 (by decide +kernel)
def mX7_wet : kw_M := ((RX7, yX7_wet, cX7_wet, 1, (some .int)), [(0, .aload_n 0, 1), (1, .getfield 55, 3), (4, .aload_n 0, 1), (5, .getfield 31, 3), (8, .invokevirtual 240, 3), (11, .invokevirtual 92, 3), (14, .pop, 1), (15, .aload_n 0, 1), (16, .getfield 31, 3), (19, .getfield 117, 3), (22, .invokevirtual 243, 3), (25, .aload_n 0, 1), (26, .aload_n 0, 1), (27, .getfield 31, 3), (30, .getfield 194, 3), (33, .invokevirtual 246, 3), (36, .iconst (-1), 1), (37, .ixor, 1), (38, .iand, 1), (39, .ireturn, 1)])
set_option maxRecDepth 20000 in
theorem tX7_wet : ∀ q ∈ mX7_wet.2, decode mX7_wet.1.2.2.1 q.1 = .ok q.2 := kd_tab cX7_wet mX7_wet.2 (by decide +kernel)
def mX7_sail : kw_M := ((RX7, yX7_sail, cX7_sail, 7, (some .int)), [(0, .aload_n 0, 1), (1, .iload_n 1, 1), (2, .invokevirtual 250, 3), (5, .istore_n 2, 1), (6, .iload_n 2, 1), (7, .ifCond .eq 5, 3), (10, .iload_n 2, 1), (11, .ireturn, 1), (12, .aload_n 0, 1), (13, .getfield 31, 3), (16, .getfield 204, 3), (19, .istore_n 3, 1), (20, .aload_n 0, 1), (21, .getfield 31, 3), (24, .getfield 197, 3), (27, .istore 4, 2), (29, .iconst 0, 1), (30, .istore 5, 2), (32, .iload 5, 2), (34, .aload_n 0, 1), (35, .getfield 14, 3), (38, .iload_n 1, 1), (39, .invokevirtual 110, 3), (42, .if_icmp .ge 72, 3), (45, .aload_n 0, 1), (46, .getfield 31, 3), (49, .iload 5, 2), (51, .invokevirtual 253, 3), (54, .istore 6, 2), (56, .iload_n 3, 1), (57, .aload_n 0, 1), (58, .getfield 31, 3), (61, .getfield 117, 3), (64, .aload_n 0, 1), (65, .getfield 14, 3), (68, .iload_n 1, 1), (69, .iload 5, 2), (71, .invokevirtual 85, 3), (74, .iload 6, 2), (76, .invokevirtual 222, 3), (79, .iadd, 1), (80, .istore_n 3, 1), (81, .iload 4, 2), (83, .aload_n 0, 1), (84, .getfield 31, 3), (87, .getfield 117, 3), (90, .aload_n 0, 1), (91, .getfield 14, 3), (94, .iload_n 1, 1), (95, .iload 5, 2), (97, .invokevirtual 85, 3), (100, .iload 6, 2), (102, .invokevirtual 219, 3), (105, .iadd, 1), (106, .istore 4, 2), (108, .iinc 5 1, 3), (111, .goto (-79), 3), (114, .aload_n 0, 1), (115, .getfield 55, 3), (118, .iload 4, 2), (120, .i2l, 1), (121, .invokevirtual 200, 3), (124, .aload_n 0, 1), (125, .getfield 55, 3), (128, .iload_n 3, 1), (129, .invokevirtual 92, 3), (132, .ireturn, 1)])
set_option maxRecDepth 20000 in
theorem tX7_sail : ∀ q ∈ mX7_sail.2, decode mX7_sail.1.2.2.1 q.1 = .ok q.2 := kd_tab cX7_sail mX7_sail.2 (by decide +kernel)
def mX7_dry : kw_M := ((RX7, yX7_dry, cX7_dry, 4, (some .int)), [(0, .aload_n 0, 1), (1, .iload_n 1, 1), (2, .invokevirtual 250, 3), (5, .istore_n 2, 1), (6, .iload_n 2, 1), (7, .ifCond .eq 5, 3), (10, .iload_n 2, 1), (11, .ireturn, 1), (12, .aload_n 0, 1), (13, .getfield 31, 3), (16, .getfield 194, 3), (19, .iconst 0, 1), (20, .aload_n 0, 1), (21, .getfield 59, 3), (24, .iconst 0, 1), (25, .bipush 6, 2), (27, .invokestatic 256, 3), (30, .iconst 0, 1), (31, .istore_n 3, 1), (32, .iload_n 3, 1), (33, .aload_n 0, 1), (34, .getfield 14, 3), (37, .iload_n 1, 1), (38, .invokevirtual 110, 3), (41, .if_icmp .ge 33, 3), (44, .aload_n 0, 1), (45, .getfield 59, 3), (48, .aload_n 0, 1), (49, .getfield 14, 3), (52, .iload_n 1, 1), (53, .iload_n 3, 1), (54, .invokevirtual 85, 3), (57, .aload_n 0, 1), (58, .getfield 31, 3), (61, .iload_n 3, 1), (62, .invokevirtual 253, 3), (65, .invokestatic 262, 3), (68, .iinc 3 1, 3), (71, .goto (-39), 3), (74, .aload_n 0, 1), (75, .aload_n 0, 1), (76, .getfield 59, 3), (79, .invokevirtual 246, 3), (82, .ireturn, 1)])
set_option maxRecDepth 20000 in
theorem tX7_dry : ∀ q ∈ mX7_dry.2, decode mX7_dry.1.2.2.1 q.1 = .ok q.2 := kd_tab cX7_dry mX7_dry.2 (by decide +kernel)
def mX7_far : kw_M := ((RX7, yX7_far, cX7_far, 5, (some .int)), [(0, .iload_n 1, 1), (1, .ifCond .lt 30, 3), (4, .iload_n 1, 1), (5, .iconst 3, 1), (6, .if_icmp .gt 25, 3), (9, .iload_n 2, 1), (10, .ifCond .lt 21, 3), (13, .iload_n 2, 1), (14, .sipush 999, 3), (17, .if_icmp .gt 14, 3), (20, .aload_n 0, 1), (21, .getfield 14, 3), (24, .iload_n 3, 1), (25, .invokevirtual 73, 3), (28, .ifCond .ne 5, 3), (31, .iconst (-1), 1), (32, .ireturn, 1), (33, .aload_n 0, 1), (34, .getfield 31, 3), (37, .invokevirtual 178, 3), (40, .ifCond .eq 6, 3), (43, .bipush (-4), 2), (45, .ireturn, 1), (46, .aload_n 0, 1), (47, .getfield 48, 3), (50, .aload_n 0, 1), (51, .getfield 31, 3), (54, .iload_n 1, 1), (55, .iload_n 2, 1), (56, .invokevirtual 266, 3), (59, .ifCond .ne 6, 3), (62, .bipush (-9), 2), (64, .ireturn, 1), (65, .aload_n 0, 1), (66, .getfield 14, 3), (69, .iload_n 3, 1), (70, .iload_n 1, 1), (71, .iconst 0, 1), (72, .invokevirtual 210, 3), (75, .iconst 0, 1), (76, .istore 4, 2), (78, .iload 4, 2), (80, .iload_n 1, 1), (81, .if_icmp .ge 29, 3), (84, .aload_n 0, 1), (85, .getfield 14, 3), (88, .iload_n 3, 1), (89, .iload 4, 2), (91, .aload_n 0, 1), (92, .getfield 48, 3), (95, .getfield 270, 3), (98, .iload 4, 2), (100, .iaload, 1), (101, .invokevirtual 88, 3), (104, .iinc 4 1, 3), (107, .goto (-29), 3), (110, .aload_n 0, 1), (111, .getfield 55, 3), (114, .aload_n 0, 1), (115, .getfield 48, 3), (118, .getfield 273, 3), (121, .invokevirtual 92, 3), (124, .ireturn, 1)])
set_option maxRecDepth 20000 in
theorem tX7_far : ∀ q ∈ mX7_far.2, decode mX7_far.1.2.2.1 q.1 = .ok q.2 := kd_tab cX7_far mX7_far.2 (by decide +kernel)
def mX7_soon : kw_M := ((RX7, yX7_soon, cX7_soon, 5, (some .int)), [(0, .iload_n 1, 1), (1, .sipush (-999), 3), (4, .if_icmp .lt 10, 3), (7, .iload_n 1, 1), (8, .sipush 999, 3), (11, .if_icmp .le 5, 3), (14, .iconst (-1), 1), (15, .ireturn, 1), (16, .aload_n 0, 1), (17, .getfield 31, 3), (20, .invokevirtual 178, 3), (23, .ifCond .eq 6, 3), (26, .bipush (-4), 2), (28, .ireturn, 1), (29, .aload_n 0, 1), (30, .getfield 31, 3), (33, .getfield 117, 3), (36, .invokevirtual 243, 3), (39, .istore_n 2, 1), (40, .aload_n 0, 1), (41, .getfield 31, 3), (44, .getfield 204, 3), (47, .istore_n 3, 1), (48, .iconst 0, 1), (49, .istore 4, 2), (51, .iload 4, 2), (53, .iconst 3, 1), (54, .if_icmp .gt 40, 3), (57, .iload_n 3, 1), (58, .iload_n 1, 1), (59, .if_icmp .lt 6, 3), (62, .iload 4, 2), (64, .ireturn, 1), (65, .iload_n 3, 1), (66, .aload_n 0, 1), (67, .getfield 31, 3), (70, .getfield 117, 3), (73, .iload_n 2, 1), (74, .aload_n 0, 1), (75, .getfield 31, 3), (78, .iload 4, 2), (80, .invokevirtual 253, 3), (83, .invokevirtual 276, 3), (86, .iadd, 1), (87, .istore_n 3, 1), (88, .iinc 4 1, 3), (91, .goto (-40), 3), (94, .bipush (-9), 2), (96, .ireturn, 1)])
set_option maxRecDepth 20000 in
theorem tX7_soon : ∀ q ∈ mX7_soon.2, decode mX7_soon.1.2.2.1 q.1 = .ok q.2 := kd_tab cX7_soon mX7_soon.2 (by decide +kernel)
def mX7_least : kw_M := ((RX7, yX7_least, cX7_least, 7, (some .int)), [(0, .iload_n 1, 1), (1, .ifCond .lt 8, 3), (4, .iload_n 1, 1), (5, .iconst 3, 1), (6, .if_icmp .le 5, 3), (9, .iconst (-1), 1), (10, .ireturn, 1), (11, .aload_n 0, 1), (12, .getfield 31, 3), (15, .invokevirtual 178, 3), (18, .ifCond .eq 6, 3), (21, .bipush (-4), 2), (23, .ireturn, 1), (24, .bipush (-9), 2), (26, .istore_n 3, 1), (27, .aload_n 0, 1), (28, .getfield 31, 3), (31, .getfield 117, 3), (34, .invokevirtual 243, 3), (37, .iconst 1, 1), (38, .iadd, 1), (39, .istore 4, 2), (41, .iconst 0, 1), (42, .istore 5, 2), (44, .iload 5, 2), (46, .iload 4, 2), (48, .if_icmp .ge 52, 3), (51, .aload_n 0, 1), (52, .iload_n 1, 1), (53, .iload 5, 2), (55, .invokevirtual 279, 3), (58, .iload_n 2, 1), (59, .if_icmp .ge 6, 3), (62, .goto 32, 3), (65, .aload_n 0, 1), (66, .getfield 31, 3), (69, .getfield 117, 3), (72, .iload 5, 2), (74, .invokevirtual 235, 3), (77, .istore 6, 2), (79, .iload_n 3, 1), (80, .bipush (-9), 2), (82, .if_icmp .eq 9, 3), (85, .iload 6, 2), (87, .iload_n 3, 1), (88, .if_icmp .ge 6, 3), (91, .iload 6, 2), (93, .istore_n 3, 1), (94, .iinc 5 1, 3), (97, .goto (-53), 3), (100, .iload_n 3, 1), (101, .ireturn, 1)])
set_option maxRecDepth 20000 in
theorem tX7_least : ∀ q ∈ mX7_least.2, decode mX7_least.1.2.2.1 q.1 = .ok q.2 := kd_tab cX7_least mX7_least.2 (by decide +kernel)
def mX7_ways : kw_M := ((RX7, yX7_ways, cX7_ways, 6, (some .int)), [(0, .iload_n 1, 1), (1, .bipush (-99), 2), (3, .if_icmp .lt 23, 3), (6, .iload_n 1, 1), (7, .bipush 99, 2), (9, .if_icmp .gt 17, 3), (12, .iload_n 2, 1), (13, .sipush (-999), 3), (16, .if_icmp .lt 10, 3), (19, .iload_n 2, 1), (20, .sipush 999, 3), (23, .if_icmp .le 5, 3), (26, .iconst (-1), 1), (27, .ireturn, 1), (28, .aload_n 0, 1), (29, .getfield 31, 3), (32, .invokevirtual 178, 3), (35, .ifCond .eq 6, 3), (38, .bipush (-4), 2), (40, .ireturn, 1), (41, .aload_n 0, 1), (42, .getfield 41, 3), (45, .aload_n 0, 1), (46, .getfield 31, 3), (49, .getfield 117, 3), (52, .aload_n 0, 1), (53, .getfield 31, 3), (56, .invokevirtual 171, 3), (59, .invokevirtual 225, 3), (62, .iconst 0, 1), (63, .istore_n 3, 1), (64, .aload_n 0, 1), (65, .getfield 31, 3), (68, .getfield 117, 3), (71, .invokevirtual 243, 3), (74, .istore 4, 2), (76, .iconst 0, 1), (77, .istore 5, 2), (79, .iload 5, 2), (81, .aload_n 0, 1), (82, .getfield 41, 3), (85, .getfield 229, 3), (88, .if_icmp .ge 36, 3), (91, .aload_n 0, 1), (92, .getfield 41, 3), (95, .iload 5, 2), (97, .iload_n 1, 1), (98, .iload_n 2, 1), (99, .invokevirtual 232, 3), (102, .ifCond .ne 6, 3), (105, .goto 13, 3), (108, .iload 4, 2), (110, .iload 5, 2), (112, .iand, 1), (113, .istore 4, 2), (115, .iinc 3 1, 3), (118, .iinc 5 1, 3), (121, .goto (-42), 3), (124, .aload_n 0, 1), (125, .getfield 55, 3), (128, .iload_n 3, 1), (129, .i2l, 1), (130, .invokevirtual 200, 3), (133, .aload_n 0, 1), (134, .getfield 55, 3), (137, .iload_n 3, 1), (138, .ifCond .ne 7, 3), (141, .iconst 0, 1), (142, .goto 5, 3), (145, .iload 4, 2), (147, .invokevirtual 92, 3), (150, .ireturn, 1)])
set_option maxRecDepth 20000 in
theorem tX7_ways : ∀ q ∈ mX7_ways.2, decode mX7_ways.1.2.2.1 q.1 = .ok q.2 := kd_tab cX7_ways mX7_ways.2 (by decide +kernel)
def mX7_kinds : kw_M := ((RX7, yX7_kinds, cX7_kinds, 6, (some .int)), [(0, .aload_n 0, 1), (1, .iload_n 1, 1), (2, .iload_n 2, 1), (3, .invokevirtual 282, 3), (6, .istore_n 3, 1), (7, .iload_n 3, 1), (8, .ifCond .eq 5, 3), (11, .iload_n 3, 1), (12, .ireturn, 1), (13, .iconst 0, 1), (14, .istore 4, 2), (16, .iconst 0, 1), (17, .istore 5, 2), (19, .iload 5, 2), (21, .bipush 6, 2), (23, .if_icmp .ge 40, 3), (26, .aload_n 0, 1), (27, .iload_n 2, 1), (28, .iload 5, 2), (30, .aload_n 0, 1), (31, .getfield 31, 3), (34, .getfield 117, 3), (37, .getfield 168, 3), (40, .iload_n 1, 1), (41, .iaload, 1), (42, .invokevirtual 285, 3), (45, .ifCond .eq 12, 3), (48, .iload 4, 2), (50, .iconst 1, 1), (51, .iload 5, 2), (53, .ishl, 1), (54, .ior, 1), (55, .istore 4, 2), (57, .iinc 5 1, 3), (60, .goto (-41), 3), (63, .iload 4, 2), (65, .ireturn, 1)])
set_option maxRecDepth 20000 in
theorem tX7_kinds : ∀ q ∈ mX7_kinds.2, decode mX7_kinds.1.2.2.1 q.1 = .ok q.2 := kd_tab cX7_kinds mX7_kinds.2 (by decide +kernel)
def mX7_areas : kw_M := ((RX7, yX7_areas, cX7_areas, 6, (some .int)), [(0, .aload_n 0, 1), (1, .iload_n 1, 1), (2, .iload_n 2, 1), (3, .invokevirtual 282, 3), (6, .istore_n 3, 1), (7, .iload_n 3, 1), (8, .ifCond .eq 5, 3), (11, .iload_n 3, 1), (12, .ireturn, 1), (13, .iconst 0, 1), (14, .istore 4, 2), (16, .iconst 1, 1), (17, .istore 5, 2), (19, .iload 5, 2), (21, .bipush 9, 2), (23, .if_icmp .gt 40, 3), (26, .aload_n 0, 1), (27, .iload_n 2, 1), (28, .aload_n 0, 1), (29, .getfield 31, 3), (32, .getfield 117, 3), (35, .getfield 143, 3), (38, .iload_n 1, 1), (39, .iaload, 1), (40, .iload 5, 2), (42, .invokevirtual 285, 3), (45, .ifCond .eq 12, 3), (48, .iload 4, 2), (50, .iconst 1, 1), (51, .iload 5, 2), (53, .ishl, 1), (54, .ior, 1), (55, .istore 4, 2), (57, .iinc 5 1, 3), (60, .goto (-41), 3), (63, .iload 4, 2), (65, .ireturn, 1)])
set_option maxRecDepth 20000 in
theorem tX7_areas : ∀ q ∈ mX7_areas.2, decode mX7_areas.1.2.2.1 q.1 = .ok q.2 := kd_tab cX7_areas mX7_areas.2 (by decide +kernel)
def mX7_rival : kw_M := ((RX7, yX7_rival, cX7_rival, 2, (some .int)), [(0, .iload_n 1, 1), (1, .ifCond .lt 8, 3), (4, .iload_n 1, 1), (5, .iconst 2, 1), (6, .if_icmp .le 5, 3), (9, .iconst (-1), 1), (10, .ireturn, 1), (11, .aload_n 0, 1), (12, .getfield 31, 3), (15, .invokevirtual 178, 3), (18, .ifCond .eq 6, 3), (21, .bipush (-4), 2), (23, .ireturn, 1), (24, .aload_n 0, 1), (25, .getfield 41, 3), (28, .aload_n 0, 1), (29, .getfield 31, 3), (32, .getfield 117, 3), (35, .aload_n 0, 1), (36, .getfield 31, 3), (39, .invokevirtual 171, 3), (42, .invokevirtual 225, 3), (45, .aload_n 0, 1), (46, .getfield 55, 3), (49, .aload_n 0, 1), (50, .getfield 41, 3), (53, .aload_n 0, 1), (54, .getfield 31, 3), (57, .getfield 157, 3), (60, .iconst 2, 1), (61, .iload_n 1, 1), (62, .imul, 1), (63, .invokestatic 288, 3), (66, .invokevirtual 92, 3), (69, .ireturn, 1)])
set_option maxRecDepth 20000 in
theorem tX7_rival : ∀ q ∈ mX7_rival.2, decode mX7_rival.1.2.2.1 q.1 = .ok q.2 := kd_tab cX7_rival mX7_rival.2 (by decide +kernel)
def mX7_mid : kw_M := ((RX7, yX7_mid, cX7_mid, 7, (some .int)), [(0, .iload_n 2, 1), (1, .ifCond .lt 9, 3), (4, .iload_n 2, 1), (5, .bipush 12, 2), (7, .if_icmp .le 5, 3), (10, .iconst (-1), 1), (11, .ireturn, 1), (12, .aload_n 0, 1), (13, .iload_n 1, 1), (14, .invokevirtual 250, 3), (17, .istore_n 3, 1), (18, .iload_n 3, 1), (19, .ifCond .eq 5, 3), (22, .iload_n 3, 1), (23, .ireturn, 1), (24, .aload_n 0, 1), (25, .iload_n 1, 1), (26, .invokevirtual 292, 3), (29, .ldc2_w 295, 3), (32, .aload_n 0, 1), (33, .getfield 31, 3), (36, .getfield 204, 3), (39, .i2l, 1), (40, .lmul, 1), (41, .lstore 4, 2), (43, .iconst 0, 1), (44, .istore 6, 2), (46, .iload 6, 2), (48, .aload_n 0, 1), (49, .getfield 14, 3), (52, .iload_n 1, 1), (53, .invokevirtual 110, 3), (56, .if_icmp .ge 37, 3), (59, .lload 4, 2), (61, .bipush 12, 2), (63, .iload_n 2, 1), (64, .isub, 1), (65, .aload_n 0, 1), (66, .getfield 63, 3), (69, .iload 6, 2), (71, .iaload, 1), (72, .imul, 1), (73, .iload_n 2, 1), (74, .aload_n 0, 1), (75, .getfield 66, 3), (78, .iload 6, 2), (80, .iaload, 1), (81, .imul, 1), (82, .iadd, 1), (83, .i2l, 1), (84, .ladd, 1), (85, .lstore 4, 2), (87, .iinc 6 1, 3), (90, .goto (-44), 3), (93, .aload_n 0, 1), (94, .getfield 55, 3), (97, .lload 4, 2), (99, .ldc2_w 295, 3), (102, .invokevirtual 297, 3), (105, .iconst 1, 1), (106, .ireturn, 1)])
set_option maxRecDepth 20000 in
theorem tX7_mid : ∀ q ∈ mX7_mid.2, decode mX7_mid.1.2.2.1 q.1 = .ok q.2 := kd_tab cX7_mid mX7_mid.2 (by decide +kernel)
def mX7_odds : kw_M := ((RX7, yX7_odds, cX7_odds, 11, (some .int)), [(0, .iload_n 2, 1), (1, .sipush (-999), 3), (4, .if_icmp .lt 20, 3), (7, .iload_n 2, 1), (8, .sipush 999, 3), (11, .if_icmp .gt 13, 3), (14, .iload_n 3, 1), (15, .ifCond .lt 9, 3), (18, .iload_n 3, 1), (19, .bipush 12, 2), (21, .if_icmp .le 5, 3), (24, .iconst (-1), 1), (25, .ireturn, 1), (26, .aload_n 0, 1), (27, .iload_n 1, 1), (28, .invokevirtual 250, 3), (31, .istore 4, 2), (33, .iload 4, 2), (35, .ifCond .eq 6, 3), (38, .iload 4, 2), (40, .ireturn, 1), (41, .aload_n 0, 1), (42, .iload_n 1, 1), (43, .invokevirtual 292, 3), (46, .aload_n 0, 1), (47, .getfield 14, 3), (50, .iload_n 1, 1), (51, .invokevirtual 110, 3), (54, .istore 5, 2), (56, .lconst 1, 1), (57, .lstore 6, 2), (59, .iconst 0, 1), (60, .istore 8, 2), (62, .iload 8, 2), (64, .iload 5, 2), (66, .if_icmp .ge 17, 3), (69, .lload 6, 2), (71, .ldc2_w 295, 3), (74, .lmul, 1), (75, .lstore 6, 2), (77, .iinc 8 1, 3), (80, .goto (-18), 3), (83, .lconst 0, 1), (84, .lstore 8, 2), (86, .iconst 0, 1), (87, .istore 10, 2), (89, .iload 10, 2), (91, .iconst 1, 1), (92, .iload 5, 2), (94, .ishl, 1), (95, .if_icmp .ge 34, 3), (98, .aload_n 0, 1), (99, .iload 5, 2), (101, .iload 10, 2), (103, .invokevirtual 301, 3), (106, .iload_n 2, 1), (107, .if_icmp .lt 16, 3), (110, .lload 8, 2), (112, .iload 5, 2), (114, .iload 10, 2), (116, .iload_n 3, 1), (117, .invokestatic 304, 3), (120, .ladd, 1), (121, .lstore 8, 2), (123, .iinc 10 1, 3), (126, .goto (-37), 3), (129, .aload_n 0, 1), (130, .getfield 55, 3), (133, .lload 8, 2), (135, .lload 6, 2), (137, .invokevirtual 297, 3), (140, .iconst 1, 1), (141, .ireturn, 1)])
set_option maxRecDepth 20000 in
theorem tX7_odds : ∀ q ∈ mX7_odds.2, decode mX7_odds.1.2.2.1 q.1 = .ok q.2 := kd_tab cX7_odds mX7_odds.2 (by decide +kernel)
def mX7_lots : kw_M := ((RX7, yX7_lots, cX7_lots, 7, (some .int)), [(0, .iload_n 1, 1), (1, .iconst 1, 1), (2, .if_icmp .lt 23, 3), (5, .iload_n 1, 1), (6, .bipush 20, 2), (8, .if_icmp .gt 17, 3), (11, .iload_n 2, 1), (12, .iconst 1, 1), (13, .if_icmp .lt 12, 3), (16, .iload_n 2, 1), (17, .i2l, 1), (18, .ldc2_w 308, 3), (21, .lcmp, 1), (22, .ifCond .lt 5, 3), (25, .iconst (-1), 1), (26, .ireturn, 1), (27, .aload_n 0, 1), (28, .getfield 31, 3), (31, .getfield 117, 3), (34, .getfield 133, 3), (37, .istore_n 3, 1), (38, .iload_n 3, 1), (39, .iconst 1, 1), (40, .if_icmp .ge 6, 3), (43, .bipush (-4), 2), (45, .ireturn, 1), (46, .aload_n 0, 1), (47, .getfield 31, 3), (50, .iconst 2, 1), (51, .iload_n 1, 1), (52, .imul, 1), (53, .invokevirtual 188, 3), (56, .ifCond .ne 6, 3), (59, .bipush (-2), 2), (61, .ireturn, 1), (62, .iload_n 2, 1), (63, .i2l, 1), (64, .lstore 4, 2), (66, .iconst 0, 1), (67, .istore 6, 2), (69, .iload 6, 2), (71, .iload_n 1, 1), (72, .if_icmp .ge 43, 3), (75, .lload 4, 2), (77, .ldc2_w 310, 3), (80, .lmul, 1), (81, .ldc2_w 308, 3), (84, .lrem, 1), (85, .lstore 4, 2), (87, .aload_n 0, 1), (88, .getfield 31, 3), (91, .lload 4, 2), (93, .iload_n 3, 1), (94, .i2l, 1), (95, .lrem, 1), (96, .l2i, 1), (97, .invokevirtual 191, 3), (100, .aload_n 0, 1), (101, .getfield 31, 3), (104, .bipush 6, 2), (106, .invokevirtual 191, 3), (109, .iinc 6 1, 3), (112, .goto (-43), 3), (115, .aload_n 0, 1), (116, .getfield 55, 3), (119, .aload_n 0, 1), (120, .getfield 31, 3), (123, .getfield 204, 3), (126, .invokevirtual 92, 3), (129, .ireturn, 1)])
set_option maxRecDepth 20000 in
theorem tX7_lots : ∀ q ∈ mX7_lots.2, decode mX7_lots.1.2.2.1 q.1 = .ok q.2 := kd_tab cX7_lots mX7_lots.2 (by decide +kernel)
def mX7_asked : kw_M := ((RX7, yX7_asked, cX7_asked, 1, (some .int)), [(0, .aload_n 0, 1), (1, .getfield 55, 3), (4, .getfield 312, 3), (7, .ireturn, 1)])
set_option maxRecDepth 20000 in
theorem tX7_asked : ∀ q ∈ mX7_asked.2, decode mX7_asked.1.2.2.1 q.1 = .ok q.2 := kd_tab cX7_asked mX7_asked.2 (by decide +kernel)
def mX7_upper : kw_M := ((RX7, yX7_upper, cX7_upper, 1, (some .long)), [(0, .aload_n 0, 1), (1, .getfield 55, 3), (4, .getfield 315, 3), (7, .lreturn, 1)])
set_option maxRecDepth 20000 in
theorem tX7_upper : ∀ q ∈ mX7_upper.2, decode mX7_upper.1.2.2.1 q.1 = .ok q.2 := kd_tab cX7_upper mX7_upper.2 (by decide +kernel)
def mX7_lower : kw_M := ((RX7, yX7_lower, cX7_lower, 1, (some .long)), [(0, .aload_n 0, 1), (1, .getfield 55, 3), (4, .getfield 319, 3), (7, .lreturn, 1)])
set_option maxRecDepth 20000 in
theorem tX7_lower : ∀ q ∈ mX7_lower.2, decode mX7_lower.1.2.2.1 q.1 = .ok q.2 := kd_tab cX7_lower mX7_lower.2 (by decide +kernel)
def mX7_count : kw_M := ((RX7, yX7_count, cX7_count, 2, (some .int)), [(0, .iload_n 1, 1), (1, .tableswitch 149 0 9 #[55, 66, 74, 82, 93, 101, 113, 125, 133, 141], 55), (56, .aload_n 0, 1), (57, .getfield 31, 3), (60, .getfield 117, 3), (63, .getfield 133, 3), (66, .ireturn, 1), (67, .aload_n 0, 1), (68, .getfield 31, 3), (71, .getfield 322, 3), (74, .ireturn, 1), (75, .aload_n 0, 1), (76, .getfield 31, 3), (79, .getfield 207, 3), (82, .ireturn, 1), (83, .aload_n 0, 1), (84, .getfield 31, 3), (87, .getfield 157, 3), (90, .invokestatic 160, 3), (93, .ireturn, 1), (94, .aload_n 0, 1), (95, .getfield 31, 3), (98, .invokevirtual 240, 3), (101, .ireturn, 1), (102, .aload_n 0, 1), (103, .getfield 31, 3), (106, .getfield 117, 3), (109, .iconst 1, 1), (110, .invokevirtual 325, 3), (113, .ireturn, 1), (114, .aload_n 0, 1), (115, .getfield 31, 3), (118, .getfield 117, 3), (121, .iconst 4, 1), (122, .invokevirtual 325, 3), (125, .ireturn, 1), (126, .aload_n 0, 1), (127, .getfield 14, 3), (130, .invokevirtual 328, 3), (133, .ireturn, 1), (134, .aload_n 0, 1), (135, .getfield 18, 3), (138, .invokevirtual 328, 3), (141, .ireturn, 1), (142, .aload_n 0, 1), (143, .getfield 35, 3), (146, .invokevirtual 328, 3), (149, .ireturn, 1), (150, .iconst (-1), 1), (151, .ireturn, 1)])
set_option maxRecDepth 20000 in
theorem tX7_count : ∀ q ∈ mX7_count.2, decode mX7_count.1.2.2.1 q.1 = .ok q.2 := kd_tab cX7_count mX7_count.2 (by decide +kernel)
def mX7_miles : kw_M := ((RX7, yX7_miles, cX7_miles, 1, (some .int)), [(0, .aload_n 0, 1), (1, .getfield 55, 3), (4, .aload_n 0, 1), (5, .getfield 31, 3), (8, .getfield 197, 3), (11, .i2l, 1), (12, .invokevirtual 200, 3), (15, .aload_n 0, 1), (16, .getfield 31, 3), (19, .getfield 204, 3), (22, .ireturn, 1)])
set_option maxRecDepth 20000 in
theorem tX7_miles : ∀ q ∈ mX7_miles.2, decode mX7_miles.1.2.2.1 q.1 = .ok q.2 := kd_tab cX7_miles mX7_miles.2 (by decide +kernel)
def mX7_finding : kw_M := ((RX7, yX7_finding, cX7_finding, 1, (some .int)), [(0, .aload_n 0, 1), (1, .getfield 55, 3), (4, .getfield 331, 3), (7, .ireturn, 1)])
set_option maxRecDepth 20000 in
theorem tX7_finding : ∀ q ∈ mX7_finding.2, decode mX7_finding.1.2.2.1 q.1 = .ok q.2 := kd_tab cX7_finding mX7_finding.2 (by decide +kernel)
def mX7_findings : kw_M := ((RX7, yX7_findings, cX7_findings, 2, (some .int)), [(0, .iload_n 1, 1), (1, .iconst 1, 1), (2, .if_icmp .lt 8, 3), (5, .iload_n 1, 1), (6, .iconst 5, 1), (7, .if_icmp .le 5, 3), (10, .iconst (-1), 1), (11, .ireturn, 1), (12, .aload_n 0, 1), (13, .getfield 55, 3), (16, .getfield 334, 3), (19, .iload_n 1, 1), (20, .iaload, 1), (21, .ireturn, 1)])
set_option maxRecDepth 20000 in
theorem tX7_findings : ∀ q ∈ mX7_findings.2, decode mX7_findings.1.2.2.1 q.1 = .ok q.2 := kd_tab cX7_findings mX7_findings.2 (by decide +kernel)
def mX7_digest : kw_M := ((RX7, yX7_digest, cX7_digest, 5, (some .long)), [(0, .ldc2_w 337, 3), (3, .lstore_n 1, 1), (4, .iconst 0, 1), (5, .istore_n 3, 1), (6, .iload_n 3, 1), (7, .bipush 9, 2), (9, .if_icmp .gt 22, 3), (12, .ldc2_w 339, 3), (15, .lload_n 1, 1), (16, .lmul, 1), (17, .aload_n 0, 1), (18, .iload_n 3, 1), (19, .invokevirtual 341, 3), (22, .i2l, 1), (23, .ladd, 1), (24, .lstore_n 1, 1), (25, .iinc 3 1, 3), (28, .goto (-22), 3), (31, .ldc2_w 339, 3), (34, .lload_n 1, 1), (35, .lmul, 1), (36, .aload_n 0, 1), (37, .getfield 31, 3), (40, .getfield 204, 3), (43, .i2l, 1), (44, .ladd, 1), (45, .lstore_n 1, 1), (46, .ldc2_w 339, 3), (49, .lload_n 1, 1), (50, .lmul, 1), (51, .aload_n 0, 1), (52, .getfield 31, 3), (55, .getfield 197, 3), (58, .i2l, 1), (59, .ladd, 1), (60, .lstore_n 1, 1), (61, .iconst 0, 1), (62, .istore_n 3, 1), (63, .iload_n 3, 1), (64, .aload_n 0, 1), (65, .getfield 31, 3), (68, .getfield 117, 3), (71, .getfield 133, 3), (74, .if_icmp .ge 43, 3), (77, .iconst 0, 1), (78, .istore 4, 2), (80, .iload 4, 2), (82, .bipush 6, 2), (84, .if_icmp .gt 27, 3), (87, .ldc2_w 339, 3), (90, .lload_n 1, 1), (91, .lmul, 1), (92, .aload_n 0, 1), (93, .getfield 31, 3), (96, .iload_n 3, 1), (97, .iload 4, 2), (99, .invokevirtual 140, 3), (102, .i2l, 1), (103, .ladd, 1), (104, .lstore_n 1, 1), (105, .iinc 4 1, 3), (108, .goto (-28), 3), (111, .iinc 3 1, 3), (114, .goto (-51), 3), (117, .iconst 0, 1), (118, .istore_n 3, 1), (119, .iload_n 3, 1), (120, .iconst 3, 1), (121, .if_icmp .ge 25, 3), (124, .ldc2_w 339, 3), (127, .lload_n 1, 1), (128, .lmul, 1), (129, .aload_n 0, 1), (130, .getfield 35, 3), (133, .iload_n 3, 1), (134, .invokevirtual 110, 3), (137, .i2l, 1), (138, .ladd, 1), (139, .lstore_n 1, 1), (140, .iinc 3 1, 3), (143, .goto (-24), 3), (146, .aload_n 0, 1), (147, .getfield 18, 3), (150, .aload_n 0, 1), (151, .getfield 14, 3), (154, .lload_n 1, 1), (155, .invokevirtual 344, 3), (158, .invokevirtual 344, 3), (161, .lreturn, 1)])
set_option maxRecDepth 20000 in
theorem tX7_digest : ∀ q ∈ mX7_digest.2, decode mX7_digest.1.2.2.1 q.1 = .ok q.2 := kd_tab cX7_digest mX7_digest.2 (by decide +kernel)
def mX7_makeOn : kw_M := ((RX7, yX7_makeOn, cX7_makeOn, 5, (some .int)), [(0, .aload_n 1, 1), (1, .iload_n 2, 1), (2, .invokevirtual 73, 3), (5, .ifCond .eq 11, 3), (8, .iload_n 3, 1), (9, .aload_n 1, 1), (10, .getfield 348, 3), (13, .if_icmp .le 5, 3), (16, .iconst (-1), 1), (17, .ireturn, 1), (18, .iload_n 3, 1), (19, .ifCond .ge 12, 3), (22, .aload_n 0, 1), (23, .getfield 55, 3), (26, .iconst 5, 1), (27, .invokevirtual 81, 3), (30, .ireturn, 1), (31, .aload_n 1, 1), (32, .iload_n 2, 1), (33, .iload_n 3, 1), (34, .iload 4, 2), (36, .invokevirtual 210, 3), (39, .iload_n 3, 1), (40, .ireturn, 1)])
set_option maxRecDepth 20000 in
theorem tX7_makeOn : ∀ q ∈ mX7_makeOn.2, decode mX7_makeOn.1.2.2.1 q.1 = .ok q.2 := kd_tab cX7_makeOn mX7_makeOn.2 (by decide +kernel)
def mX7_planRefusal : kw_M := ((RX7, yX7_planRefusal, cX7_planRefusal, 3, (some .int)), [(0, .aload_n 0, 1), (1, .getfield 14, 3), (4, .iload_n 1, 1), (5, .invokevirtual 73, 3), (8, .ifCond .ne 5, 3), (11, .iconst (-1), 1), (12, .ireturn, 1), (13, .aload_n 0, 1), (14, .getfield 31, 3), (17, .invokevirtual 178, 3), (20, .ifCond .eq 6, 3), (23, .bipush (-4), 2), (25, .ireturn, 1), (26, .aload_n 0, 1), (27, .getfield 14, 3), (30, .iload_n 1, 1), (31, .invokevirtual 95, 3), (34, .ifCond .eq 12, 3), (37, .aload_n 0, 1), (38, .getfield 55, 3), (41, .iconst 1, 1), (42, .invokevirtual 81, 3), (45, .ireturn, 1), (46, .aload_n 0, 1), (47, .getfield 14, 3), (50, .iload_n 1, 1), (51, .invokevirtual 110, 3), (54, .bipush 6, 2), (56, .if_icmp .le 12, 3), (59, .aload_n 0, 1), (60, .getfield 55, 3), (63, .iconst 5, 1), (64, .invokevirtual 81, 3), (67, .ireturn, 1), (68, .iconst 0, 1), (69, .istore_n 2, 1), (70, .iload_n 2, 1), (71, .aload_n 0, 1), (72, .getfield 14, 3), (75, .iload_n 1, 1), (76, .invokevirtual 110, 3), (79, .if_icmp .ge 40, 3), (82, .aload_n 0, 1), (83, .getfield 31, 3), (86, .getfield 117, 3), (89, .aload_n 0, 1), (90, .getfield 14, 3), (93, .iload_n 1, 1), (94, .iload_n 2, 1), (95, .invokevirtual 85, 3), (98, .invokevirtual 216, 3), (101, .ifCond .ne 12, 3), (104, .aload_n 0, 1), (105, .getfield 55, 3), (108, .iconst 3, 1), (109, .invokevirtual 81, 3), (112, .ireturn, 1), (113, .iinc 2 1, 3), (116, .goto (-46), 3), (119, .iconst 0, 1), (120, .ireturn, 1)])
set_option maxRecDepth 20000 in
theorem tX7_planRefusal : ∀ q ∈ mX7_planRefusal.2, decode mX7_planRefusal.1.2.2.1 q.1 = .ok q.2 := kd_tab cX7_planRefusal mX7_planRefusal.2 (by decide +kernel)
def mX7_pairsRefusal : kw_M := ((RX7, yX7_pairsRefusal, cX7_pairsRefusal, 6, (some .int)), [(0, .aload_n 0, 1), (1, .getfield 31, 3), (4, .getfield 117, 3), (7, .iload_n 1, 1), (8, .invokevirtual 137, 3), (11, .ifCond .eq 14, 3), (14, .aload_n 0, 1), (15, .getfield 14, 3), (18, .iload_n 2, 1), (19, .invokevirtual 73, 3), (22, .ifCond .ne 5, 3), (25, .iconst (-1), 1), (26, .ireturn, 1), (27, .aload_n 0, 1), (28, .getfield 14, 3), (31, .iload_n 2, 1), (32, .invokevirtual 95, 3), (35, .ifCond .eq 12, 3), (38, .aload_n 0, 1), (39, .getfield 55, 3), (42, .iconst 1, 1), (43, .invokevirtual 81, 3), (46, .ireturn, 1), (47, .aload_n 0, 1), (48, .getfield 14, 3), (51, .iload_n 2, 1), (52, .invokevirtual 110, 3), (55, .istore_n 3, 1), (56, .iload_n 3, 1), (57, .iconst 2, 1), (58, .irem, 1), (59, .ifCond .ne 9, 3), (62, .iload_n 3, 1), (63, .bipush 20, 2), (65, .if_icmp .le 12, 3), (68, .aload_n 0, 1), (69, .getfield 55, 3), (72, .iconst 5, 1), (73, .invokevirtual 81, 3), (76, .ireturn, 1), (77, .iconst 0, 1), (78, .istore 4, 2), (80, .iload 4, 2), (82, .iload_n 3, 1), (83, .if_icmp .ge 42, 3), (86, .aload_n 0, 1), (87, .getfield 14, 3), (90, .iload_n 2, 1), (91, .iload 4, 2), (93, .invokevirtual 85, 3), (96, .istore 5, 2), (98, .iload 5, 2), (100, .ifCond .lt 10, 3), (103, .iload 5, 2), (105, .bipush 6, 2), (107, .if_icmp .le 12, 3), (110, .aload_n 0, 1), (111, .getfield 55, 3), (114, .iconst 3, 1), (115, .invokevirtual 81, 3), (118, .ireturn, 1), (119, .iinc 4 2, 3), (122, .goto (-42), 3), (125, .iconst 0, 1), (126, .ireturn, 1)])
set_option maxRecDepth 20000 in
theorem tX7_pairsRefusal : ∀ q ∈ mX7_pairsRefusal.2, decode mX7_pairsRefusal.1.2.2.1 q.1 = .ok q.2 := kd_tab cX7_pairsRefusal mX7_pairsRefusal.2 (by decide +kernel)
def mX7_pulledSo : kw_M := ((RX7, yX7_pulledSo, cX7_pulledSo, 5, (some .boolean)), [(0, .iconst 0, 1), (1, .istore 4, 2), (3, .iload 4, 2), (5, .iconst 1, 1), (6, .iadd, 1), (7, .aload_n 0, 1), (8, .getfield 14, 3), (11, .iload_n 1, 1), (12, .invokevirtual 110, 3), (15, .if_icmp .ge 41, 3), (18, .iload_n 2, 1), (19, .iload_n 3, 1), (20, .aload_n 0, 1), (21, .getfield 14, 3), (24, .iload_n 1, 1), (25, .iload 4, 2), (27, .invokevirtual 85, 3), (30, .invokestatic 174, 3), (33, .aload_n 0, 1), (34, .getfield 14, 3), (37, .iload_n 1, 1), (38, .iload 4, 2), (40, .iconst 1, 1), (41, .iadd, 1), (42, .invokevirtual 85, 3), (45, .if_icmp .eq 5, 3), (48, .iconst 0, 1), (49, .ireturn, 1), (50, .iinc 4 2, 3), (53, .goto (-50), 3), (56, .iconst 1, 1), (57, .ireturn, 1)])
set_option maxRecDepth 20000 in
theorem tX7_pulledSo : ∀ q ∈ mX7_pulledSo.2, decode mX7_pulledSo.1.2.2.1 q.1 = .ok q.2 := kd_tab cX7_pulledSo mX7_pulledSo.2 (by decide +kernel)
def mX7_drySet : kw_M := ((RX7, yX7_drySet, cX7_drySet, 4, (some .int)), [(0, .iconst 0, 1), (1, .istore_n 2, 1), (2, .iconst 0, 1), (3, .istore_n 3, 1), (4, .iload_n 3, 1), (5, .aload_n 0, 1), (6, .getfield 31, 3), (9, .getfield 117, 3), (12, .getfield 133, 3), (15, .if_icmp .ge 21, 3), (18, .aload_n 1, 1), (19, .iload_n 3, 1), (20, .iaload, 1), (21, .ifCond .ne 9, 3), (24, .iload_n 2, 1), (25, .iconst 1, 1), (26, .iload_n 3, 1), (27, .ishl, 1), (28, .ior, 1), (29, .istore_n 2, 1), (30, .iinc 3 1, 3), (33, .goto (-29), 3), (36, .iload_n 2, 1), (37, .ireturn, 1)])
set_option maxRecDepth 20000 in
theorem tX7_drySet : ∀ q ∈ mX7_drySet.2, decode mX7_drySet.1.2.2.1 q.1 = .ok q.2 := kd_tab cX7_drySet mX7_drySet.2 (by decide +kernel)
def mX7_mostMilesBehind : kw_M := ((RX7, yX7_mostMilesBehind, cX7_mostMilesBehind, 5, (some .int)), [(0, .aload_n 0, 1), (1, .getfield 31, 3), (4, .getfield 204, 3), (7, .istore_n 3, 1), (8, .iconst 0, 1), (9, .istore 4, 2), (11, .iload 4, 2), (13, .iload_n 1, 1), (14, .if_icmp .ge 32, 3), (17, .iload_n 3, 1), (18, .aload_n 0, 1), (19, .getfield 31, 3), (22, .getfield 117, 3), (25, .iload_n 2, 1), (26, .aload_n 0, 1), (27, .getfield 31, 3), (30, .iload 4, 2), (32, .invokevirtual 253, 3), (35, .invokevirtual 276, 3), (38, .iadd, 1), (39, .istore_n 3, 1), (40, .iinc 4 1, 3), (43, .goto (-32), 3), (46, .iload_n 3, 1), (47, .ireturn, 1)])
set_option maxRecDepth 20000 in
theorem tX7_mostMilesBehind : ∀ q ∈ mX7_mostMilesBehind.2, decode mX7_mostMilesBehind.1.2.2.1 q.1 = .ok q.2 := kd_tab cX7_mostMilesBehind mX7_mostMilesBehind.2 (by decide +kernel)
def mX7_foresee : kw_M := ((RX7, yX7_foresee, cX7_foresee, 4, none), [(0, .iconst 0, 1), (1, .istore_n 2, 1), (2, .iload_n 2, 1), (3, .aload_n 0, 1), (4, .getfield 14, 3), (7, .iload_n 1, 1), (8, .invokevirtual 110, 3), (11, .if_icmp .ge 77, 3), (14, .iload_n 2, 1), (15, .bipush 6, 2), (17, .if_icmp .ge 71, 3), (20, .aload_n 0, 1), (21, .getfield 14, 3), (24, .iload_n 1, 1), (25, .iload_n 2, 1), (26, .invokevirtual 85, 3), (29, .istore_n 3, 1), (30, .aload_n 0, 1), (31, .getfield 63, 3), (34, .iload_n 2, 1), (35, .aload_n 0, 1), (36, .getfield 31, 3), (39, .getfield 117, 3), (42, .iload_n 3, 1), (43, .aload_n 0, 1), (44, .getfield 31, 3), (47, .iload_n 2, 1), (48, .invokevirtual 253, 3), (51, .invokevirtual 222, 3), (54, .iastore, 1), (55, .aload_n 0, 1), (56, .getfield 66, 3), (59, .iload_n 2, 1), (60, .aload_n 0, 1), (61, .getfield 31, 3), (64, .getfield 117, 3), (67, .iload_n 3, 1), (68, .aload_n 0, 1), (69, .getfield 31, 3), (72, .iload_n 2, 1), (73, .invokevirtual 253, 3), (76, .iconst 1, 1), (77, .iadd, 1), (78, .invokevirtual 222, 3), (81, .iastore, 1), (82, .iinc 2 1, 3), (85, .goto (-83), 3), (88, .return_, 1)])
set_option maxRecDepth 20000 in
theorem tX7_foresee : ∀ q ∈ mX7_foresee.2, decode mX7_foresee.1.2.2.1 q.1 = .ok q.2 := kd_tab cX7_foresee mX7_foresee.2 (by decide +kernel)
def mX7_milesByGusts : kw_M := ((RX7, yX7_milesByGusts, cX7_milesByGusts, 5, (some .int)), [(0, .aload_n 0, 1), (1, .getfield 31, 3), (4, .getfield 204, 3), (7, .istore_n 3, 1), (8, .iconst 0, 1), (9, .istore 4, 2), (11, .iload 4, 2), (13, .iload_n 1, 1), (14, .if_icmp .ge 39, 3), (17, .iload_n 3, 1), (18, .iload_n 2, 1), (19, .iload 4, 2), (21, .ishr, 1), (22, .iconst 1, 1), (23, .iand, 1), (24, .iconst 1, 1), (25, .if_icmp .ne 13, 3), (28, .aload_n 0, 1), (29, .getfield 66, 3), (32, .iload 4, 2), (34, .iaload, 1), (35, .goto 10, 3), (38, .aload_n 0, 1), (39, .getfield 63, 3), (42, .iload 4, 2), (44, .iaload, 1), (45, .iadd, 1), (46, .istore_n 3, 1), (47, .iinc 4 1, 3), (50, .goto (-39), 3), (53, .iload_n 3, 1), (54, .ireturn, 1)])
set_option maxRecDepth 20000 in
theorem tX7_milesByGusts : ∀ q ∈ mX7_milesByGusts.2, decode mX7_milesByGusts.1.2.2.1 q.1 = .ok q.2 := kd_tab cX7_milesByGusts mX7_milesByGusts.2 (by decide +kernel)
def mX7_weightOfGusts : kw_M := ((RX7, yX7_weightOfGusts, cX7_weightOfGusts, 6, (some .long)), [(0, .lconst 1, 1), (1, .lstore_n 3, 1), (2, .iconst 0, 1), (3, .istore 5, 2), (5, .iload 5, 2), (7, .iload_n 0, 1), (8, .if_icmp .ge 32, 3), (11, .lload_n 3, 1), (12, .iload_n 1, 1), (13, .iload 5, 2), (15, .ishr, 1), (16, .iconst 1, 1), (17, .iand, 1), (18, .iconst 1, 1), (19, .if_icmp .ne 8, 3), (22, .iload_n 2, 1), (23, .i2l, 1), (24, .goto 8, 3), (27, .bipush 12, 2), (29, .iload_n 2, 1), (30, .isub, 1), (31, .i2l, 1), (32, .lmul, 1), (33, .lstore_n 3, 1), (34, .iinc 5 1, 3), (37, .goto (-32), 3), (40, .lload_n 3, 1), (41, .lreturn, 1)])
set_option maxRecDepth 20000 in
theorem tX7_weightOfGusts : ∀ q ∈ mX7_weightOfGusts.2, decode mX7_weightOfGusts.1.2.2.1 q.1 = .ok q.2 := kd_tab cX7_weightOfGusts mX7_weightOfGusts.2 (by decide +kernel)
def mX7_play : kw_M := ((RX7, yX7_play, cX7_play, 8, (some .int)), [(0, .iload_n 2, 1), (1, .ifCond .gt 9, 3), (4, .aload_n 0, 1), (5, .iload_n 1, 1), (6, .invokevirtual 238, 3), (9, .ireturn, 1), (10, .iload_n 2, 1), (11, .iconst 2, 1), (12, .irem, 1), (13, .ifCond .ne 7, 3), (16, .iconst 1, 1), (17, .goto 4, 3), (20, .iconst 0, 1), (21, .istore_n 3, 1), (22, .aload_n 0, 1), (23, .iload_n 1, 1), (24, .iload_n 2, 1), (25, .iconst 1, 1), (26, .isub, 1), (27, .invokestatic 288, 3), (30, .istore 4, 2), (32, .iconst 0, 1), (33, .istore 5, 2), (35, .iload 5, 2), (37, .aload_n 0, 1), (38, .getfield 351, 3), (41, .if_icmp .ge 73, 3), (44, .iload_n 1, 1), (45, .iload 5, 2), (47, .ishr, 1), (48, .iconst 1, 1), (49, .iand, 1), (50, .iconst 1, 1), (51, .if_icmp .ne 7, 3), (54, .iconst 1, 1), (55, .goto 4, 3), (58, .iconst 0, 1), (59, .istore 6, 2), (61, .iload 6, 2), (63, .iload_n 3, 1), (64, .if_icmp .ne 6, 3), (67, .goto 41, 3), (70, .aload_n 0, 1), (71, .iload_n 1, 1), (72, .iconst 1, 1), (73, .iload 5, 2), (75, .ishl, 1), (76, .ixor, 1), (77, .iload_n 2, 1), (78, .iconst 1, 1), (79, .isub, 1), (80, .invokestatic 288, 3), (83, .istore 7, 2), (85, .iload_n 3, 1), (86, .ifCond .eq 13, 3), (89, .iload 4, 2), (91, .iload 7, 2), (93, .invokestatic 352, 3), (96, .goto 10, 3), (99, .iload 4, 2), (101, .iload 7, 2), (103, .invokestatic 357, 3), (106, .istore 4, 2), (108, .iinc 5 1, 3), (111, .goto (-76), 3), (114, .iload 4, 2), (116, .ireturn, 1)])
set_option maxRecDepth 20000 in
theorem tX7_play : ∀ q ∈ mX7_play.2, decode mX7_play.1.2.2.1 q.1 = .ok q.2 := kd_tab cX7_play mX7_play.2 (by decide +kernel)
def mX7_isA : kw_M := ((RX7, yX7_isA, cX7_isA, 4, (some .boolean)), [(0, .iload_n 0, 1), (1, .istore_n 2, 1), (2, .iconst 0, 1), (3, .istore_n 3, 1), (4, .iload_n 3, 1), (5, .bipush 6, 2), (7, .if_icmp .ge 32, 3), (10, .iload_n 2, 1), (11, .ifCond .lt 28, 3), (14, .iload_n 2, 1), (15, .bipush 6, 2), (17, .if_icmp .ge 22, 3), (20, .iload_n 2, 1), (21, .iload_n 1, 1), (22, .if_icmp .ne 5, 3), (25, .iconst 1, 1), (26, .ireturn, 1), (27, .getstatic 360, 3), (30, .iload_n 2, 1), (31, .iaload, 1), (32, .istore_n 2, 1), (33, .iinc 3 1, 3), (36, .goto (-32), 3), (39, .iconst 0, 1), (40, .ireturn, 1)])
set_option maxRecDepth 20000 in
theorem tX7_isA : ∀ q ∈ mX7_isA.2, decode mX7_isA.1.2.2.1 q.1 = .ok q.2 := kd_tab cX7_isA mX7_isA.2 (by decide +kernel)
def mX7_pull : kw_M := ((RX7, yX7_pull, cX7_pull, 5, (some .int)), [(0, .iload_n 1, 1), (1, .iload_n 2, 1), (2, .imul, 1), (3, .istore_n 3, 1), (4, .iload_n 3, 1), (5, .iload_n 2, 1), (6, .iadd, 1), (7, .istore 4, 2), (9, .iload_n 0, 1), (10, .tableswitch 63 1 5 #[34, 37, 48, 51, 56], 34), (44, .iload 4, 2), (46, .ireturn, 1), (47, .iload_n 2, 1), (48, .iconst 3, 1), (49, .if_icmp .lt 7, 3), (52, .iload_n 3, 1), (53, .goto 4, 3), (56, .iconst 0, 1), (57, .ireturn, 1), (58, .iload_n 3, 1), (59, .ineg, 1), (60, .ireturn, 1), (61, .iconst 2, 1), (62, .iload 4, 2), (64, .imul, 1), (65, .ireturn, 1), (66, .iconst 2, 1), (67, .iload 4, 2), (69, .imul, 1), (70, .iconst 3, 1), (71, .idiv, 1), (72, .ireturn, 1), (73, .iload_n 3, 1), (74, .ireturn, 1)])
set_option maxRecDepth 20000 in
theorem tX7_pull : ∀ q ∈ mX7_pull.2, decode mX7_pull.1.2.2.1 q.1 = .ok q.2 := kd_tab cX7_pull mX7_pull.2 (by decide +kernel)
def mX7_weather : kw_M := ((RX7, yX7_weather, cX7_weather, 4, none), [(0, .iconst 0, 1), (1, .istore_n 3, 1), (2, .iload_n 3, 1), (3, .bipush 6, 2), (5, .if_icmp .ge 55, 3), (8, .iload_n 3, 1), (9, .aload_n 0, 1), (10, .arraylength, 1), (11, .if_icmp .ge 49, 3), (14, .iload_n 1, 1), (15, .iload_n 3, 1), (16, .ishr, 1), (17, .iconst 1, 1), (18, .iand, 1), (19, .ifCond .ne 6, 3), (22, .goto 32, 3), (25, .aload_n 0, 1), (26, .iload_n 3, 1), (27, .iload_n 2, 1), (28, .ifCond .le 15, 3), (31, .iconst 0, 1), (32, .aload_n 0, 1), (33, .iload_n 3, 1), (34, .iaload, 1), (35, .iconst 1, 1), (36, .isub, 1), (37, .invokestatic 352, 3), (40, .goto 13, 3), (43, .bipush 9, 2), (45, .aload_n 0, 1), (46, .iload_n 3, 1), (47, .iaload, 1), (48, .iconst 2, 1), (49, .iadd, 1), (50, .invokestatic 357, 3), (53, .iastore, 1), (54, .iinc 3 1, 3), (57, .goto (-55), 3), (60, .return_, 1)])
set_option maxRecDepth 20000 in
theorem tX7_weather : ∀ q ∈ mX7_weather.2, decode mX7_weather.1.2.2.1 q.1 = .ok q.2 := kd_tab cX7_weather mX7_weather.2 (by decide +kernel)
def mJ6_bitCount_0f7a4 : kw_M := ((RJ6, yJ6_bitCount_0f7a4, cJ6_bitCount_0f7a4, 1, (some .int)), [(0, .iload_n 0, 1), (1, .iload_n 0, 1), (2, .iconst 1, 1), (3, .iushr, 1), (4, .ldc_w 265, 3), (7, .iand, 1), (8, .isub, 1), (9, .istore_n 0, 1), (10, .iload_n 0, 1), (11, .ldc_w 266, 3), (14, .iand, 1), (15, .iload_n 0, 1), (16, .iconst 2, 1), (17, .iushr, 1), (18, .ldc_w 266, 3), (21, .iand, 1), (22, .iadd, 1), (23, .istore_n 0, 1), (24, .iload_n 0, 1), (25, .iload_n 0, 1), (26, .iconst 4, 1), (27, .iushr, 1), (28, .iadd, 1), (29, .ldc_w 267, 3), (32, .iand, 1), (33, .istore_n 0, 1), (34, .iload_n 0, 1), (35, .iload_n 0, 1), (36, .bipush 8, 2), (38, .iushr, 1), (39, .iadd, 1), (40, .istore_n 0, 1), (41, .iload_n 0, 1), (42, .iload_n 0, 1), (43, .bipush 16, 2), (45, .iushr, 1), (46, .iadd, 1), (47, .istore_n 0, 1), (48, .iload_n 0, 1), (49, .bipush 63, 2), (51, .iand, 1), (52, .ireturn, 1)])
set_option maxRecDepth 20000 in
theorem tJ6_bitCount_0f7a4 : ∀ q ∈ mJ6_bitCount_0f7a4.2, decode mJ6_bitCount_0f7a4.1.2.2.1 q.1 = .ok q.2 := kd_tab cJ6_bitCount_0f7a4 mJ6_bitCount_0f7a4.2 (by decide +kernel)
def mJ9_abs_067f4 : kw_M := ((RJ9, yJ9_abs_067f4, cJ9_abs_067f4, 2, (some .long)), [(0, .lload_n 0, 1), (1, .lconst 0, 1), (2, .lcmp, 1), (3, .ifCond .ge 8, 3), (6, .lload_n 0, 1), (7, .lneg, 1), (8, .goto 4, 3), (11, .lload_n 0, 1), (12, .lreturn, 1)])
set_option maxRecDepth 20000 in
theorem tJ9_abs_067f4 : ∀ q ∈ mJ9_abs_067f4.2, decode mJ9_abs_067f4.1.2.2.1 q.1 = .ok q.2 := kd_tab cJ9_abs_067f4 mJ9_abs_067f4.2 (by decide +kernel)
def mJ9_max_7cf53 : kw_M := ((RJ9, yJ9_max_7cf53, cJ9_max_7cf53, 2, (some .int)), [(0, .iload_n 0, 1), (1, .iload_n 1, 1), (2, .if_icmp .lt 7, 3), (5, .iload_n 0, 1), (6, .goto 4, 3), (9, .iload_n 1, 1), (10, .ireturn, 1)])
set_option maxRecDepth 20000 in
theorem tJ9_max_7cf53 : ∀ q ∈ mJ9_max_7cf53.2, decode mJ9_max_7cf53.1.2.2.1 q.1 = .ok q.2 := kd_tab cJ9_max_7cf53 mJ9_max_7cf53.2 (by decide +kernel)
def mJ9_min_7cf53 : kw_M := ((RJ9, yJ9_min_7cf53, cJ9_min_7cf53, 2, (some .int)), [(0, .iload_n 0, 1), (1, .iload_n 1, 1), (2, .if_icmp .gt 7, 3), (5, .iload_n 0, 1), (6, .goto 4, 3), (9, .iload_n 1, 1), (10, .ireturn, 1)])
set_option maxRecDepth 20000 in
theorem tJ9_min_7cf53 : ∀ q ∈ mJ9_min_7cf53.2, decode mJ9_min_7cf53.1.2.2.1 q.1 = .ok q.2 := kd_tab cJ9_min_7cf53 mJ9_min_7cf53.2 (by decide +kernel)
def mJ7_fill_53178 : kw_M := ((RJ7, yJ7_fill_53178, cJ7_fill_53178, 4, none), [(0, .iconst 0, 1), (1, .istore_n 2, 1), (2, .aload_n 0, 1), (3, .arraylength, 1), (4, .istore_n 3, 1), (5, .iload_n 2, 1), (6, .iload_n 3, 1), (7, .if_icmp .ge 13, 3), (10, .aload_n 0, 1), (11, .iload_n 2, 1), (12, .iload_n 1, 1), (13, .iastore, 1), (14, .iinc 2 1, 3), (17, .goto (-12), 3), (20, .return_, 1)])
set_option maxRecDepth 20000 in
theorem tJ7_fill_53178 : ∀ q ∈ mJ7_fill_53178.2, decode mJ7_fill_53178.1.2.2.1 q.1 = .ok q.2 := kd_tab cJ7_fill_53178 mJ7_fill_53178.2 (by decide +kernel)
end
section
def mX8_in : kw_M := ((RX8, yX8_in, cX8_in, 3, (some .boolean)), [(0, .iload_n 0, 1), (1, .iload_n 1, 1), (2, .if_icmp .lt 12, 3), (5, .iload_n 0, 1), (6, .iload_n 2, 1), (7, .if_icmp .gt 7, 3), (10, .iconst 1, 1), (11, .goto 4, 3), (14, .iconst 0, 1), (15, .ireturn, 1)])
set_option maxRecDepth 20000 in
theorem tX8_in : ∀ q ∈ mX8_in.2, decode mX8_in.1.2.2.1 q.1 = .ok q.2 := kd_tab cX8_in mX8_in.2 (by decide +kernel)
def mX8_meet : kw_M := ((RX8, yX8_meet, cX8_meet, 2, (some .int)), [(0, .aload_n 0, 1), (1, .iload_n 1, 1), (2, .putfield 84, 3), (5, .aload_n 0, 1), (6, .getfield 7, 3), (9, .iload_n 1, 1), (10, .dup2, 1), (11, .iaload, 1), (12, .iconst 1, 1), (13, .iadd, 1), (14, .iastore, 1), (15, .bipush (-3), 2), (17, .ireturn, 1)])
set_option maxRecDepth 20000 in
theorem tX8_meet : ∀ q ∈ mX8_meet.2, decode mX8_meet.1.2.2.1 q.1 = .ok q.2 := kd_tab cX8_meet mX8_meet.2 (by decide +kernel)
def mX8_ask : kw_M := ((RX8, yX8_ask, cX8_ask, 3, (some .int)), [(0, .aload_n 0, 1), (1, .iload_n 1, 1), (2, .putfield 87, 3), (5, .iload_n 2, 1), (6, .ireturn, 1)])
set_option maxRecDepth 20000 in
theorem tX8_ask : ∀ q ∈ mX8_ask.2, decode mX8_ask.1.2.2.1 q.1 = .ok q.2 := kd_tab cX8_ask mX8_ask.2 (by decide +kernel)
def mX8_has : kw_M := ((RX8, yX8_has, cX8_has, 2, (some .boolean)), [(0, .iload_n 0, 1), (1, .iload_n 1, 1), (2, .ishr, 1), (3, .iconst 1, 1), (4, .iand, 1), (5, .iconst 1, 1), (6, .if_icmp .ne 7, 3), (9, .iconst 1, 1), (10, .goto 4, 3), (13, .iconst 0, 1), (14, .ireturn, 1)])
set_option maxRecDepth 20000 in
theorem tX8_has : ∀ q ∈ mX8_has.2, decode mX8_has.1.2.2.1 q.1 = .ok q.2 := kd_tab cX8_has mX8_has.2 (by decide +kernel)
def mX8_greater : kw_M := ((RX8, yX8_greater, cX8_greater, 2, (some .int)), [(0, .iload_n 0, 1), (1, .iload_n 1, 1), (2, .if_icmp .le 7, 3), (5, .iload_n 0, 1), (6, .goto 4, 3), (9, .iload_n 1, 1), (10, .ireturn, 1)])
set_option maxRecDepth 20000 in
theorem tX8_greater : ∀ q ∈ mX8_greater.2, decode mX8_greater.1.2.2.1 q.1 = .ok q.2 := kd_tab cX8_greater mX8_greater.2 (by decide +kernel)
def mX8_part : kw_M := ((RX8, yX8_part, cX8_part, 11, (some .int)), [(0, .lload_n 1, 1), (1, .lconst 0, 1), (2, .lcmp, 1), (3, .ifCond .ge 8, 3), (6, .lload_n 1, 1), (7, .lneg, 1), (8, .goto 4, 3), (11, .lload_n 1, 1), (12, .lstore 5, 2), (14, .lload_n 3, 1), (15, .lstore 7, 2), (17, .lload 7, 2), (19, .lconst 0, 1), (20, .lcmp, 1), (21, .ifCond .eq 21, 3), (24, .lload 5, 2), (26, .lload 7, 2), (28, .lrem, 1), (29, .lstore 9, 2), (31, .lload 7, 2), (33, .lstore 5, 2), (35, .lload 9, 2), (37, .lstore 7, 2), (39, .goto (-22), 3), (42, .aload_n 0, 1), (43, .lload_n 1, 1), (44, .lload 5, 2), (46, .ldiv, 1), (47, .putfield 90, 3), (50, .aload_n 0, 1), (51, .lload_n 3, 1), (52, .lload 5, 2), (54, .ldiv, 1), (55, .putfield 13, 3), (58, .iconst 1, 1), (59, .ireturn, 1)])
set_option maxRecDepth 20000 in
theorem tX8_part : ∀ q ∈ mX8_part.2, decode mX8_part.1.2.2.1 q.1 = .ok q.2 := kd_tab cX8_part mX8_part.2 (by decide +kernel)
def mX8_isRow : kw_M := ((RX8, yX8_isRow, cX8_isRow, 1, (some .boolean)), [(0, .iload_n 0, 1), (1, .iconst 0, 1), (2, .iconst 5, 1), (3, .invokestatic 93, 3), (6, .ireturn, 1)])
set_option maxRecDepth 20000 in
theorem tX8_isRow : ∀ q ∈ mX8_isRow.2, decode mX8_isRow.1.2.2.1 q.1 = .ok q.2 := kd_tab cX8_isRow mX8_isRow.2 (by decide +kernel)
def mX8_isText : kw_M := ((RX8, yX8_isText, cX8_isText, 1, (some .boolean)), [(0, .iload_n 0, 1), (1, .iconst 0, 1), (2, .iconst 3, 1), (3, .invokestatic 93, 3), (6, .ireturn, 1)])
set_option maxRecDepth 20000 in
theorem tX8_isText : ∀ q ∈ mX8_isText.2, decode mX8_isText.1.2.2.1 q.1 = .ok q.2 := kd_tab cX8_isText mX8_isText.2 (by decide +kernel)
def mX8_askedRow : kw_M := ((RX8, yX8_askedRow, cX8_askedRow, 2, (some .int)), [(0, .iload_n 1, 1), (1, .invokestatic 97, 3), (4, .ifCond .ne 7, 3), (7, .iconst (-1), 1), (8, .goto 21, 3), (11, .aload_n 0, 1), (12, .getfield 17, 3), (15, .iload_n 1, 1), (16, .iaload, 1), (17, .ifCond .ge 11, 3), (20, .aload_n 0, 1), (21, .iconst 1, 1), (22, .invokevirtual 101, 3), (25, .goto 4, 3), (28, .iconst 0, 1), (29, .ireturn, 1)])
set_option maxRecDepth 20000 in
theorem tX8_askedRow : ∀ q ∈ mX8_askedRow.2, decode mX8_askedRow.1.2.2.1 q.1 = .ok q.2 := kd_tab cX8_askedRow mX8_askedRow.2 (by decide +kernel)
def mX8_askedText : kw_M := ((RX8, yX8_askedText, cX8_askedText, 2, (some .int)), [(0, .iload_n 1, 1), (1, .invokestatic 105, 3), (4, .ifCond .ne 7, 3), (7, .iconst (-1), 1), (8, .goto 21, 3), (11, .aload_n 0, 1), (12, .getfield 26, 3), (15, .iload_n 1, 1), (16, .iaload, 1), (17, .ifCond .ge 11, 3), (20, .aload_n 0, 1), (21, .iconst 1, 1), (22, .invokevirtual 101, 3), (25, .goto 4, 3), (28, .iconst 0, 1), (29, .ireturn, 1)])
set_option maxRecDepth 20000 in
theorem tX8_askedText : ∀ q ∈ mX8_askedText.2, decode mX8_askedText.1.2.2.1 q.1 = .ok q.2 := kd_tab cX8_askedText mX8_askedText.2 (by decide +kernel)
def mX8_rowAt : kw_M := ((RX8, yX8_rowAt, cX8_rowAt, 3, (some .int)), [(0, .aload_n 0, 1), (1, .getfield 20, 3), (4, .bipush 40, 2), (6, .iload_n 1, 1), (7, .imul, 1), (8, .iload_n 2, 1), (9, .iadd, 1), (10, .iaload, 1), (11, .ireturn, 1)])
set_option maxRecDepth 20000 in
theorem tX8_rowAt : ∀ q ∈ mX8_rowAt.2, decode mX8_rowAt.1.2.2.1 q.1 = .ok q.2 := kd_tab cX8_rowAt mX8_rowAt.2 (by decide +kernel)
def mX8_setRow : kw_M := ((RX8, yX8_setRow, cX8_setRow, 4, none), [(0, .aload_n 0, 1), (1, .getfield 20, 3), (4, .bipush 40, 2), (6, .iload_n 1, 1), (7, .imul, 1), (8, .iload_n 2, 1), (9, .iadd, 1), (10, .iload_n 3, 1), (11, .iastore, 1), (12, .return_, 1)])
set_option maxRecDepth 20000 in
theorem tX8_setRow : ∀ q ∈ mX8_setRow.2, decode mX8_setRow.1.2.2.1 q.1 = .ok q.2 := kd_tab cX8_setRow mX8_setRow.2 (by decide +kernel)
def mX8_row : kw_M := ((RX8, yX8_row, cX8_row, 4, (some .int)), [(0, .iload_n 1, 1), (1, .invokestatic 97, 3), (4, .ifCond .eq 9, 3), (7, .iload_n 2, 1), (8, .bipush 40, 2), (10, .if_icmp .le 5, 3), (13, .iconst (-1), 1), (14, .ireturn, 1), (15, .iload_n 2, 1), (16, .ifCond .ge 9, 3), (19, .aload_n 0, 1), (20, .iconst 5, 1), (21, .invokevirtual 101, 3), (24, .ireturn, 1), (25, .aload_n 0, 1), (26, .getfield 17, 3), (29, .iload_n 1, 1), (30, .iload_n 2, 1), (31, .iastore, 1), (32, .iconst 0, 1), (33, .istore_n 3, 1), (34, .iload_n 3, 1), (35, .bipush 40, 2), (37, .if_icmp .ge 16, 3), (40, .aload_n 0, 1), (41, .iload_n 1, 1), (42, .iload_n 3, 1), (43, .iconst 0, 1), (44, .invokevirtual 108, 3), (47, .iinc 3 1, 3), (50, .goto (-16), 3), (53, .iload_n 2, 1), (54, .ireturn, 1)])
set_option maxRecDepth 20000 in
theorem tX8_row : ∀ q ∈ mX8_row.2, decode mX8_row.1.2.2.1 q.1 = .ok q.2 := kd_tab cX8_row mX8_row.2 (by decide +kernel)
def mX8_at : kw_M := ((RX8, yX8_at, cX8_at, 4, (some .int)), [(0, .aload_n 0, 1), (1, .iload_n 1, 1), (2, .invokevirtual 112, 3), (5, .istore_n 3, 1), (6, .iload_n 3, 1), (7, .ifCond .ge 5, 3), (10, .iload_n 3, 1), (11, .ireturn, 1), (12, .iload_n 2, 1), (13, .iconst 0, 1), (14, .aload_n 0, 1), (15, .getfield 17, 3), (18, .iload_n 1, 1), (19, .iaload, 1), (20, .iconst 1, 1), (21, .isub, 1), (22, .invokestatic 93, 3), (25, .ifCond .eq 17, 3), (28, .aload_n 0, 1), (29, .aload_n 0, 1), (30, .iload_n 1, 1), (31, .iload_n 2, 1), (32, .invokevirtual 115, 3), (35, .iconst 1, 1), (36, .invokevirtual 119, 3), (39, .goto 8, 3), (42, .aload_n 0, 1), (43, .iconst 2, 1), (44, .invokevirtual 101, 3), (47, .ireturn, 1)])
set_option maxRecDepth 20000 in
theorem tX8_at : ∀ q ∈ mX8_at.2, decode mX8_at.1.2.2.1 q.1 = .ok q.2 := kd_tab cX8_at mX8_at.2 (by decide +kernel)
def mX8_lay : kw_M := ((RX8, yX8_lay, cX8_lay, 5, (some .int)), [(0, .aload_n 0, 1), (1, .iload_n 1, 1), (2, .iload_n 2, 1), (3, .invokevirtual 122, 3), (6, .istore 4, 2), (8, .iload 4, 2), (10, .ifCond .ge 6, 3), (13, .iload 4, 2), (15, .ireturn, 1), (16, .aload_n 0, 1), (17, .iload_n 1, 1), (18, .iload_n 2, 1), (19, .iload_n 3, 1), (20, .invokevirtual 108, 3), (23, .iconst 1, 1), (24, .ireturn, 1)])
set_option maxRecDepth 20000 in
theorem tX8_lay : ∀ q ∈ mX8_lay.2, decode mX8_lay.1.2.2.1 q.1 = .ok q.2 := kd_tab cX8_lay mX8_lay.2 (by decide +kernel)
def mX8_tear : kw_M := ((RX8, yX8_tear, cX8_tear, 3, (some .int)), [(0, .aload_n 0, 1), (1, .iload_n 1, 1), (2, .invokevirtual 112, 3), (5, .istore_n 2, 1), (6, .iload_n 2, 1), (7, .ifCond .ge 5, 3), (10, .iload_n 2, 1), (11, .ireturn, 1), (12, .aload_n 0, 1), (13, .getfield 17, 3), (16, .iload_n 1, 1), (17, .bipush (-9), 2), (19, .iastore, 1), (20, .iconst 1, 1), (21, .ireturn, 1)])
set_option maxRecDepth 20000 in
theorem tX8_tear : ∀ q ∈ mX8_tear.2, decode mX8_tear.1.2.2.1 q.1 = .ok q.2 := kd_tab cX8_tear mX8_tear.2 (by decide +kernel)
def mX8_copy : kw_M := ((RX8, yX8_copy, cX8_copy, 7, (some .int)), [(0, .iload_n 1, 1), (1, .invokestatic 97, 3), (4, .ifCond .eq 10, 3), (7, .iload_n 3, 1), (8, .invokestatic 97, 3), (11, .ifCond .ne 5, 3), (14, .iconst (-1), 1), (15, .ireturn, 1), (16, .iload 5, 2), (18, .ifCond .ge 9, 3), (21, .aload_n 0, 1), (22, .iconst 5, 1), (23, .invokevirtual 101, 3), (26, .ireturn, 1), (27, .aload_n 0, 1), (28, .getfield 17, 3), (31, .iload_n 1, 1), (32, .iaload, 1), (33, .ifCond .lt 12, 3), (36, .aload_n 0, 1), (37, .getfield 17, 3), (40, .iload_n 3, 1), (41, .iaload, 1), (42, .ifCond .ge 9, 3), (45, .aload_n 0, 1), (46, .iconst 1, 1), (47, .invokevirtual 101, 3), (50, .ireturn, 1), (51, .iload_n 2, 1), (52, .ifCond .lt 43, 3), (55, .iload 4, 2), (57, .ifCond .lt 38, 3), (60, .iload_n 2, 1), (61, .i2l, 1), (62, .iload 5, 2), (64, .i2l, 1), (65, .ladd, 1), (66, .aload_n 0, 1), (67, .getfield 17, 3), (70, .iload_n 1, 1), (71, .iaload, 1), (72, .i2l, 1), (73, .lcmp, 1), (74, .ifCond .gt 21, 3), (77, .iload 4, 2), (79, .i2l, 1), (80, .iload 5, 2), (82, .i2l, 1), (83, .ladd, 1), (84, .aload_n 0, 1), (85, .getfield 17, 3), (88, .iload_n 3, 1), (89, .iaload, 1), (90, .i2l, 1), (91, .lcmp, 1), (92, .ifCond .le 9, 3), (95, .aload_n 0, 1), (96, .iconst 2, 1), (97, .invokevirtual 101, 3), (100, .ireturn, 1), (101, .iconst 0, 1), (102, .istore 6, 2), (104, .iload 6, 2), (106, .iload 5, 2), (108, .if_icmp .ge 25, 3), (111, .aload_n 0, 1), (112, .getfield 23, 3), (115, .iload 6, 2), (117, .aload_n 0, 1), (118, .iload_n 1, 1), (119, .iload_n 2, 1), (120, .iload 6, 2), (122, .iadd, 1), (123, .invokevirtual 115, 3), (126, .iastore, 1), (127, .iinc 6 1, 3), (130, .goto (-26), 3), (133, .iconst 0, 1), (134, .istore 6, 2), (136, .iload 6, 2), (138, .iload 5, 2), (140, .if_icmp .ge 26, 3), (143, .aload_n 0, 1), (144, .iload_n 3, 1), (145, .iload 4, 2), (147, .iload 6, 2), (149, .iadd, 1), (150, .aload_n 0, 1), (151, .getfield 23, 3), (154, .iload 6, 2), (156, .iaload, 1), (157, .invokevirtual 108, 3), (160, .iinc 6 1, 3), (163, .goto (-27), 3), (166, .iconst 1, 1), (167, .ireturn, 1)])
set_option maxRecDepth 20000 in
theorem tX8_copy : ∀ q ∈ mX8_copy.2, decode mX8_copy.1.2.2.1 q.1 = .ok q.2 := kd_tab cX8_copy mX8_copy.2 (by decide +kernel)
def mX8_mean : kw_M := ((RX8, yX8_mean, cX8_mean, 6, (some .int)), [(0, .aload_n 0, 1), (1, .iload_n 1, 1), (2, .invokevirtual 112, 3), (5, .istore_n 2, 1), (6, .iload_n 2, 1), (7, .ifCond .ge 5, 3), (10, .iload_n 2, 1), (11, .ireturn, 1), (12, .lconst 0, 1), (13, .lstore_n 3, 1), (14, .iconst 0, 1), (15, .istore 5, 2), (17, .iload 5, 2), (19, .aload_n 0, 1), (20, .getfield 17, 3), (23, .iload_n 1, 1), (24, .iaload, 1), (25, .if_icmp .ge 20, 3), (28, .lload_n 3, 1), (29, .aload_n 0, 1), (30, .iload_n 1, 1), (31, .iload 5, 2), (33, .invokevirtual 115, 3), (36, .i2l, 1), (37, .ladd, 1), (38, .lstore_n 3, 1), (39, .iinc 5 1, 3), (42, .goto (-25), 3), (45, .aload_n 0, 1), (46, .getfield 17, 3), (49, .iload_n 1, 1), (50, .iaload, 1), (51, .ifCond .ne 11, 3), (54, .aload_n 0, 1), (55, .iconst 4, 1), (56, .invokevirtual 101, 3), (59, .goto 18, 3), (62, .aload_n 0, 1), (63, .lload_n 3, 1), (64, .aload_n 0, 1), (65, .getfield 17, 3), (68, .iload_n 1, 1), (69, .iaload, 1), (70, .i2l, 1), (71, .ldiv, 1), (72, .l2i, 1), (73, .iconst 1, 1), (74, .invokevirtual 119, 3), (77, .ireturn, 1)])
set_option maxRecDepth 20000 in
theorem tX8_mean : ∀ q ∈ mX8_mean.2, decode mX8_mean.1.2.2.1 q.1 = .ok q.2 := kd_tab cX8_mean mX8_mean.2 (by decide +kernel)
def mX8_text : kw_M := ((RX8, yX8_text, cX8_text, 4, (some .int)), [(0, .iload_n 1, 1), (1, .invokestatic 105, 3), (4, .ifCond .eq 9, 3), (7, .iload_n 2, 1), (8, .bipush 60, 2), (10, .if_icmp .le 5, 3), (13, .iconst (-1), 1), (14, .ireturn, 1), (15, .iload_n 2, 1), (16, .ifCond .ge 9, 3), (19, .aload_n 0, 1), (20, .iconst 5, 1), (21, .invokevirtual 101, 3), (24, .ireturn, 1), (25, .aload_n 0, 1), (26, .getfield 26, 3), (29, .iload_n 1, 1), (30, .iload_n 2, 1), (31, .iastore, 1), (32, .iconst 0, 1), (33, .istore_n 3, 1), (34, .iload_n 3, 1), (35, .bipush 60, 2), (37, .if_icmp .ge 22, 3), (40, .aload_n 0, 1), (41, .getfield 29, 3), (44, .bipush 60, 2), (46, .iload_n 1, 1), (47, .imul, 1), (48, .iload_n 3, 1), (49, .iadd, 1), (50, .bipush 32, 2), (52, .iastore, 1), (53, .iinc 3 1, 3), (56, .goto (-22), 3), (59, .iload_n 2, 1), (60, .ireturn, 1)])
set_option maxRecDepth 20000 in
theorem tX8_text : ∀ q ∈ mX8_text.2, decode mX8_text.1.2.2.1 q.1 = .ok q.2 := kd_tab cX8_text mX8_text.2 (by decide +kernel)
def mX8_put : kw_M := ((RX8, yX8_put, cX8_put, 6, (some .int)), [(0, .aload_n 0, 1), (1, .iload_n 1, 1), (2, .invokevirtual 125, 3), (5, .istore 4, 2), (7, .iload 4, 2), (9, .ifCond .ge 6, 3), (12, .iload 4, 2), (14, .ireturn, 1), (15, .iload_n 2, 1), (16, .iconst 0, 1), (17, .aload_n 0, 1), (18, .getfield 26, 3), (21, .iload_n 1, 1), (22, .iaload, 1), (23, .iconst 1, 1), (24, .isub, 1), (25, .invokestatic 93, 3), (28, .ifCond .ne 9, 3), (31, .aload_n 0, 1), (32, .iconst 2, 1), (33, .invokevirtual 101, 3), (36, .ireturn, 1), (37, .aload_n 0, 1), (38, .getfield 29, 3), (41, .bipush 60, 2), (43, .iload_n 1, 1), (44, .imul, 1), (45, .iload_n 2, 1), (46, .iadd, 1), (47, .iaload, 1), (48, .istore 5, 2), (50, .aload_n 0, 1), (51, .getfield 29, 3), (54, .bipush 60, 2), (56, .iload_n 1, 1), (57, .imul, 1), (58, .iload_n 2, 1), (59, .iadd, 1), (60, .iload_n 3, 1), (61, .i2b, 1), (62, .iastore, 1), (63, .iload 5, 2), (65, .sipush 1000, 3), (68, .iadd, 1), (69, .ireturn, 1)])
set_option maxRecDepth 20000 in
theorem tX8_put : ∀ q ∈ mX8_put.2, decode mX8_put.1.2.2.1 q.1 = .ok q.2 := kd_tab cX8_put mX8_put.2 (by decide +kernel)
def mX8_here : kw_M := ((RX8, yX8_here, cX8_here, 2, (some .int)), [(0, .aload_n 0, 1), (1, .getfield 128, 3), (4, .aload_n 0, 1), (5, .getfield 26, 3), (8, .iload_n 1, 1), (9, .iaload, 1), (10, .if_icmp .ge 20, 3), (13, .aload_n 0, 1), (14, .getfield 29, 3), (17, .bipush 60, 2), (19, .iload_n 1, 1), (20, .imul, 1), (21, .aload_n 0, 1), (22, .getfield 128, 3), (25, .iadd, 1), (26, .iaload, 1), (27, .goto 5, 3), (30, .bipush (-9), 2), (32, .ireturn, 1)])
set_option maxRecDepth 20000 in
theorem tX8_here : ∀ q ∈ mX8_here.2, decode mX8_here.1.2.2.1 q.1 = .ok q.2 := kd_tab cX8_here mX8_here.2 (by decide +kernel)
def mX8_skip : kw_M := ((RX8, yX8_skip, cX8_skip, 2, none), [(0, .aload_n 0, 1), (1, .iload_n 1, 1), (2, .invokevirtual 131, 3), (5, .bipush 32, 2), (7, .if_icmp .ne 16, 3), (10, .aload_n 0, 1), (11, .dup, 1), (12, .getfield 128, 3), (15, .iconst 1, 1), (16, .iadd, 1), (17, .putfield 128, 3), (20, .goto (-20), 3), (23, .return_, 1)])
set_option maxRecDepth 20000 in
theorem tX8_skip : ∀ q ∈ mX8_skip.2, decode mX8_skip.1.2.2.1 q.1 = .ok q.2 := kd_tab cX8_skip mX8_skip.2 (by decide +kernel)
def mX8_figure : kw_M := ((RX8, yX8_figure, cX8_figure, 6, (some .boolean)), [(0, .aload_n 0, 1), (1, .iload_n 1, 1), (2, .invokevirtual 131, 3), (5, .bipush 48, 2), (7, .isub, 1), (8, .istore 5, 2), (10, .iload 5, 2), (12, .iload_n 3, 1), (13, .iload 4, 2), (15, .invokestatic 93, 3), (18, .ifCond .ne 5, 3), (21, .iconst 0, 1), (22, .ireturn, 1), (23, .aload_n 0, 1), (24, .getfield 54, 3), (27, .iload_n 2, 1), (28, .iload 5, 2), (30, .iastore, 1), (31, .aload_n 0, 1), (32, .dup, 1), (33, .getfield 128, 3), (36, .iconst 1, 1), (37, .iadd, 1), (38, .putfield 128, 3), (41, .iconst 1, 1), (42, .ireturn, 1)])
set_option maxRecDepth 20000 in
theorem tX8_figure : ∀ q ∈ mX8_figure.2, decode mX8_figure.1.2.2.1 q.1 = .ok q.2 := kd_tab cX8_figure mX8_figure.2 (by decide +kernel)
def mX8_readsWinds : kw_M := ((RX8, yX8_readsWinds, cX8_readsWinds, 2, (some .boolean)), [(0, .aload_n 0, 1), (1, .iload_n 1, 1), (2, .invokevirtual 134, 3), (5, .aload_n 0, 1), (6, .iload_n 1, 1), (7, .invokevirtual 131, 3), (10, .bipush 119, 2), (12, .if_icmp .eq 5, 3), (15, .iconst 0, 1), (16, .ireturn, 1), (17, .aload_n 0, 1), (18, .dup, 1), (19, .getfield 128, 3), (22, .iconst 1, 1), (23, .iadd, 1), (24, .putfield 128, 3), (27, .aload_n 0, 1), (28, .iconst 0, 1), (29, .putfield 138, 3), (32, .aload_n 0, 1), (33, .getfield 138, 3), (36, .bipush 8, 2), (38, .if_icmp .ge 59, 3), (41, .aload_n 0, 1), (42, .iload_n 1, 1), (43, .invokevirtual 131, 3), (46, .bipush 48, 2), (48, .isub, 1), (49, .iconst 0, 1), (50, .iconst 5, 1), (51, .invokestatic 93, 3), (54, .ifCond .eq 43, 3), (57, .aload_n 0, 1), (58, .getfield 51, 3), (61, .aload_n 0, 1), (62, .getfield 138, 3), (65, .aload_n 0, 1), (66, .iload_n 1, 1), (67, .invokevirtual 131, 3), (70, .bipush 48, 2), (72, .isub, 1), (73, .iastore, 1), (74, .aload_n 0, 1), (75, .dup, 1), (76, .getfield 138, 3), (79, .iconst 1, 1), (80, .iadd, 1), (81, .putfield 138, 3), (84, .aload_n 0, 1), (85, .dup, 1), (86, .getfield 128, 3), (89, .iconst 1, 1), (90, .iadd, 1), (91, .putfield 128, 3), (94, .goto (-62), 3), (97, .aload_n 0, 1), (98, .getfield 138, 3), (101, .ifCond .le 7, 3), (104, .iconst 1, 1), (105, .goto 4, 3), (108, .iconst 0, 1), (109, .ireturn, 1)])
set_option maxRecDepth 20000 in
theorem tX8_readsWinds : ∀ q ∈ mX8_readsWinds.2, decode mX8_readsWinds.1.2.2.1 q.1 = .ok q.2 := kd_tab cX8_readsWinds mX8_readsWinds.2 (by decide +kernel)
def mX8_kindBy : kw_M := ((RX8, yX8_kindBy, cX8_kindBy, 1, (some .int)), [(0, .iload_n 0, 1), (1, .bipush 108, 2), (3, .if_icmp .ne 7, 3), (6, .iconst 0, 1), (7, .goto 55, 3), (10, .iload_n 0, 1), (11, .bipush 115, 2), (13, .if_icmp .ne 7, 3), (16, .iconst 1, 1), (17, .goto 45, 3), (20, .iload_n 0, 1), (21, .bipush 98, 2), (23, .if_icmp .ne 7, 3), (26, .iconst 2, 1), (27, .goto 35, 3), (30, .iload_n 0, 1), (31, .bipush 107, 2), (33, .if_icmp .ne 7, 3), (36, .iconst 3, 1), (37, .goto 25, 3), (40, .iload_n 0, 1), (41, .bipush 111, 2), (43, .if_icmp .ne 7, 3), (46, .iconst 4, 1), (47, .goto 15, 3), (50, .iload_n 0, 1), (51, .bipush 112, 2), (53, .if_icmp .ne 7, 3), (56, .iconst 5, 1), (57, .goto 5, 3), (60, .bipush (-9), 2), (62, .ireturn, 1)])
set_option maxRecDepth 20000 in
theorem tX8_kindBy : ∀ q ∈ mX8_kindBy.2, decode mX8_kindBy.1.2.2.1 q.1 = .ok q.2 := kd_tab cX8_kindBy mX8_kindBy.2 (by decide +kernel)
def mX8_readsLine : kw_M := ((RX8, yX8_readsLine, cX8_readsLine, 4, (some .boolean)), [(0, .aload_n 0, 1), (1, .iload_n 1, 1), (2, .invokevirtual 131, 3), (5, .invokestatic 141, 3), (8, .istore_n 2, 1), (9, .iload_n 2, 1), (10, .bipush (-9), 2), (12, .if_icmp .eq 12, 3), (15, .aload_n 0, 1), (16, .getfield 144, 3), (19, .bipush 6, 2), (21, .if_icmp .ne 5, 3), (24, .iconst 0, 1), (25, .ireturn, 1), (26, .iconst 4, 1), (27, .aload_n 0, 1), (28, .getfield 144, 3), (31, .imul, 1), (32, .istore_n 3, 1), (33, .aload_n 0, 1), (34, .getfield 54, 3), (37, .iload_n 3, 1), (38, .iload_n 2, 1), (39, .iastore, 1), (40, .aload_n 0, 1), (41, .dup, 1), (42, .getfield 128, 3), (45, .iconst 1, 1), (46, .iadd, 1), (47, .putfield 128, 3), (50, .aload_n 0, 1), (51, .iload_n 1, 1), (52, .iload_n 3, 1), (53, .iconst 1, 1), (54, .iadd, 1), (55, .iconst 0, 1), (56, .bipush 8, 2), (58, .invokevirtual 147, 3), (61, .ifCond .eq 31, 3), (64, .aload_n 0, 1), (65, .iload_n 1, 1), (66, .iload_n 3, 1), (67, .iconst 2, 1), (68, .iadd, 1), (69, .iconst 1, 1), (70, .bipush 9, 2), (72, .invokevirtual 147, 3), (75, .ifCond .eq 17, 3), (78, .aload_n 0, 1), (79, .iload_n 1, 1), (80, .iload_n 3, 1), (81, .iconst 3, 1), (82, .iadd, 1), (83, .iconst 0, 1), (84, .bipush 9, 2), (86, .invokevirtual 147, 3), (89, .ifCond .ne 5, 3), (92, .iconst 0, 1), (93, .ireturn, 1), (94, .aload_n 0, 1), (95, .dup, 1), (96, .getfield 144, 3), (99, .iconst 1, 1), (100, .iadd, 1), (101, .putfield 144, 3), (104, .iconst 1, 1), (105, .ireturn, 1)])
set_option maxRecDepth 20000 in
theorem tX8_readsLine : ∀ q ∈ mX8_readsLine.2, decode mX8_readsLine.1.2.2.1 q.1 = .ok q.2 := kd_tab cX8_readsLine mX8_readsLine.2 (by decide +kernel)
def mX8_readsTown : kw_M := ((RX8, yX8_readsTown, cX8_readsTown, 2, (some .boolean)), [(0, .aload_n 0, 1), (1, .iconst 0, 1), (2, .putfield 128, 3), (5, .aload_n 0, 1), (6, .iconst 0, 1), (7, .putfield 144, 3), (10, .aload_n 0, 1), (11, .iload_n 1, 1), (12, .invokevirtual 151, 3), (15, .ifCond .ne 5, 3), (18, .iconst 0, 1), (19, .ireturn, 1), (20, .aload_n 0, 1), (21, .iload_n 1, 1), (22, .invokevirtual 134, 3), (25, .aload_n 0, 1), (26, .getfield 128, 3), (29, .aload_n 0, 1), (30, .getfield 26, 3), (33, .iload_n 1, 1), (34, .iaload, 1), (35, .if_icmp .ge 21, 3), (38, .aload_n 0, 1), (39, .iload_n 1, 1), (40, .invokevirtual 154, 3), (43, .ifCond .ne 5, 3), (46, .iconst 0, 1), (47, .ireturn, 1), (48, .aload_n 0, 1), (49, .iload_n 1, 1), (50, .invokevirtual 134, 3), (53, .goto (-28), 3), (56, .aload_n 0, 1), (57, .getfield 144, 3), (60, .ifCond .le 7, 3), (63, .iconst 1, 1), (64, .goto 4, 3), (67, .iconst 0, 1), (68, .ireturn, 1)])
set_option maxRecDepth 20000 in
theorem tX8_readsTown : ∀ q ∈ mX8_readsTown.2, decode mX8_readsTown.1.2.2.1 q.1 = .ok q.2 := kd_tab cX8_readsTown mX8_readsTown.2 (by decide +kernel)
def mX8_goesOn : kw_M := ((RX8, yX8_goesOn, cX8_goesOn, 2, (some .int)), [(0, .aload_n 0, 1), (1, .iload_n 1, 1), (2, .invokevirtual 157, 3), (5, .ifCond .eq 8, 3), (8, .bipush (-9), 2), (10, .goto 7, 3), (13, .aload_n 0, 1), (14, .getfield 128, 3), (17, .ireturn, 1)])
set_option maxRecDepth 20000 in
theorem tX8_goesOn : ∀ q ∈ mX8_goesOn.2, decode mX8_goesOn.1.2.2.1 q.1 = .ok q.2 := kd_tab cX8_goesOn mX8_goesOn.2 (by decide +kernel)
def mX8_fault : kw_M := ((RX8, yX8_fault, cX8_fault, 3, (some .int)), [(0, .aload_n 0, 1), (1, .iload_n 1, 1), (2, .invokevirtual 125, 3), (5, .istore_n 2, 1), (6, .iload_n 2, 1), (7, .ifCond .ge 7, 3), (10, .iload_n 2, 1), (11, .goto 8, 3), (14, .aload_n 0, 1), (15, .iload_n 1, 1), (16, .invokevirtual 160, 3), (19, .ireturn, 1)])
set_option maxRecDepth 20000 in
theorem tX8_fault : ∀ q ∈ mX8_fault.2, decode mX8_fault.1.2.2.1 q.1 = .ok q.2 := kd_tab cX8_fault mX8_fault.2 (by decide +kernel)
def mX8_town : kw_M := ((RX8, yX8_town, cX8_town, 4, (some .int)), [(0, .aload_n 0, 1), (1, .iload_n 1, 1), (2, .invokevirtual 125, 3), (5, .istore_n 2, 1), (6, .iload_n 2, 1), (7, .ifCond .ge 5, 3), (10, .iload_n 2, 1), (11, .ireturn, 1), (12, .aload_n 0, 1), (13, .iload_n 1, 1), (14, .invokevirtual 160, 3), (17, .bipush (-9), 2), (19, .if_icmp .eq 6, 3), (22, .bipush (-4), 2), (24, .ireturn, 1), (25, .aload_n 0, 1), (26, .aload_n 0, 1), (27, .getfield 144, 3), (30, .putfield 163, 3), (33, .aload_n 0, 1), (34, .aload_n 0, 1), (35, .getfield 138, 3), (38, .putfield 32, 3), (41, .iconst 0, 1), (42, .istore_n 3, 1), (43, .iload_n 3, 1), (44, .aload_n 0, 1), (45, .getfield 32, 3), (48, .if_icmp .ge 21, 3), (51, .aload_n 0, 1), (52, .getfield 36, 3), (55, .iload_n 3, 1), (56, .aload_n 0, 1), (57, .getfield 51, 3), (60, .iload_n 3, 1), (61, .iaload, 1), (62, .iastore, 1), (63, .iinc 3 1, 3), (66, .goto (-23), 3), (69, .iconst 0, 1), (70, .istore_n 3, 1), (71, .iload_n 3, 1), (72, .aload_n 0, 1), (73, .getfield 163, 3), (76, .if_icmp .ge 80, 3), (79, .aload_n 0, 1), (80, .getfield 39, 3), (83, .iload_n 3, 1), (84, .aload_n 0, 1), (85, .getfield 54, 3), (88, .iconst 4, 1), (89, .iload_n 3, 1), (90, .imul, 1), (91, .iaload, 1), (92, .iastore, 1), (93, .aload_n 0, 1), (94, .getfield 42, 3), (97, .iload_n 3, 1), (98, .aload_n 0, 1), (99, .getfield 54, 3), (102, .iconst 4, 1), (103, .iload_n 3, 1), (104, .imul, 1), (105, .iconst 1, 1), (106, .iadd, 1), (107, .iaload, 1), (108, .iconst 4, 1), (109, .isub, 1), (110, .iastore, 1), (111, .aload_n 0, 1), (112, .getfield 45, 3), (115, .iload_n 3, 1), (116, .aload_n 0, 1), (117, .getfield 54, 3), (120, .iconst 4, 1), (121, .iload_n 3, 1), (122, .imul, 1), (123, .iconst 2, 1), (124, .iadd, 1), (125, .iaload, 1), (126, .iastore, 1), (127, .aload_n 0, 1), (128, .getfield 48, 3), (131, .iload_n 3, 1), (132, .aload_n 0, 1), (133, .getfield 54, 3), (136, .iconst 4, 1), (137, .iload_n 3, 1), (138, .imul, 1), (139, .iconst 3, 1), (140, .iadd, 1), (141, .iaload, 1), (142, .iastore, 1), (143, .aload_n 0, 1), (144, .getfield 57, 3), (147, .iload_n 3, 1), (148, .iconst 0, 1), (149, .iastore, 1), (150, .iinc 3 1, 3), (153, .goto (-82), 3), (156, .aload_n 0, 1), (157, .iconst 0, 1), (158, .putfield 166, 3), (161, .aload_n 0, 1), (162, .iconst 0, 1), (163, .putfield 169, 3), (166, .aload_n 0, 1), (167, .iconst 0, 1), (168, .putfield 172, 3), (171, .aload_n 0, 1), (172, .iconst 0, 1), (173, .putfield 175, 3), (176, .aload_n 0, 1), (177, .iconst 0, 1), (178, .putfield 178, 3), (181, .iconst 0, 1), (182, .istore_n 3, 1), (183, .iload_n 3, 1), (184, .iconst 3, 1), (185, .if_icmp .ge 16, 3), (188, .aload_n 0, 1), (189, .getfield 63, 3), (192, .iload_n 3, 1), (193, .iconst 0, 1), (194, .iastore, 1), (195, .iinc 3 1, 3), (198, .goto (-15), 3), (201, .aload_n 0, 1), (202, .getfield 163, 3), (205, .ireturn, 1)])
set_option maxRecDepth 20000 in
theorem tX8_town : ∀ q ∈ mX8_town.2, decode mX8_town.1.2.2.1 q.1 = .ok q.2 := kd_tab cX8_town mX8_town.2 (by decide +kernel)
def mX8_isLine : kw_M := ((RX8, yX8_isLine, cX8_isLine, 2, (some .boolean)), [(0, .iload_n 1, 1), (1, .iconst 0, 1), (2, .aload_n 0, 1), (3, .getfield 163, 3), (6, .iconst 1, 1), (7, .isub, 1), (8, .invokestatic 93, 3), (11, .ireturn, 1)])
set_option maxRecDepth 20000 in
theorem tX8_isLine : ∀ q ∈ mX8_isLine.2, decode mX8_isLine.1.2.2.1 q.1 = .ok q.2 := kd_tab cX8_isLine mX8_isLine.2 (by decide +kernel)
def mX8_isSet : kw_M := ((RX8, yX8_isSet, cX8_isSet, 2, (some .boolean)), [(0, .iload_n 1, 1), (1, .iconst 0, 1), (2, .iconst 1, 1), (3, .aload_n 0, 1), (4, .getfield 163, 3), (7, .ishl, 1), (8, .iconst 1, 1), (9, .isub, 1), (10, .invokestatic 93, 3), (13, .ireturn, 1)])
set_option maxRecDepth 20000 in
theorem tX8_isSet : ∀ q ∈ mX8_isSet.2, decode mX8_isSet.1.2.2.1 q.1 = .ok q.2 := kd_tab cX8_isSet mX8_isSet.2 (by decide +kernel)
def mX8_windAt : kw_M := ((RX8, yX8_windAt, cX8_windAt, 2, (some .int)), [(0, .aload_n 0, 1), (1, .getfield 36, 3), (4, .iload_n 1, 1), (5, .aload_n 0, 1), (6, .getfield 32, 3), (9, .irem, 1), (10, .iaload, 1), (11, .ireturn, 1)])
set_option maxRecDepth 20000 in
theorem tX8_windAt : ∀ q ∈ mX8_windAt.2, decode mX8_windAt.1.2.2.1 q.1 = .ok q.2 := kd_tab cX8_windAt mX8_windAt.2 (by decide +kernel)
def mX8_pullBy : kw_M := ((RX8, yX8_pullBy, cX8_pullBy, 4, (some .int)), [(0, .iload_n 1, 1), (1, .iload_n 2, 1), (2, .imul, 1), (3, .iload_n 2, 1), (4, .iadd, 1), (5, .istore_n 3, 1), (6, .iload_n 0, 1), (7, .tableswitch 63 1 5 #[33, 35, 48, 53, 57], 33), (40, .iload_n 3, 1), (41, .ireturn, 1), (42, .iload_n 2, 1), (43, .iconst 3, 1), (44, .if_icmp .ge 7, 3), (47, .iconst 0, 1), (48, .goto 6, 3), (51, .iload_n 1, 1), (52, .iload_n 2, 1), (53, .imul, 1), (54, .ireturn, 1), (55, .iload_n 1, 1), (56, .ineg, 1), (57, .iload_n 2, 1), (58, .imul, 1), (59, .ireturn, 1), (60, .iconst 2, 1), (61, .iload_n 3, 1), (62, .imul, 1), (63, .ireturn, 1), (64, .iconst 2, 1), (65, .iload_n 3, 1), (66, .imul, 1), (67, .iconst 3, 1), (68, .idiv, 1), (69, .ireturn, 1), (70, .iload_n 1, 1), (71, .iload_n 2, 1), (72, .imul, 1), (73, .ireturn, 1)])
set_option maxRecDepth 20000 in
theorem tX8_pullBy : ∀ q ∈ mX8_pullBy.2, decode mX8_pullBy.1.2.2.1 q.1 = .ok q.2 := kd_tab cX8_pullBy mX8_pullBy.2 (by decide +kernel)
def mX8_pullOf : kw_M := ((RX8, yX8_pullOf, cX8_pullOf, 3, (some .int)), [(0, .aload_n 0, 1), (1, .getfield 39, 3), (4, .iload_n 1, 1), (5, .iaload, 1), (6, .aload_n 0, 1), (7, .getfield 45, 3), (10, .iload_n 1, 1), (11, .iaload, 1), (12, .iload_n 2, 1), (13, .invokestatic 181, 3), (16, .ireturn, 1)])
set_option maxRecDepth 20000 in
theorem tX8_pullOf : ∀ q ∈ mX8_pullOf.2, decode mX8_pullOf.1.2.2.1 q.1 = .ok q.2 := kd_tab cX8_pullOf mX8_pullOf.2 (by decide +kernel)
def mX8_milesBy : kw_M := ((RX8, yX8_milesBy, cX8_milesBy, 5, (some .int)), [(0, .iconst 0, 1), (1, .istore_n 3, 1), (2, .iconst 0, 1), (3, .istore 4, 2), (5, .iload 4, 2), (7, .aload_n 0, 1), (8, .getfield 163, 3), (11, .if_icmp .ge 32, 3), (14, .iload_n 3, 1), (15, .iload_n 1, 1), (16, .iload 4, 2), (18, .invokestatic 185, 3), (21, .ifCond .eq 13, 3), (24, .aload_n 0, 1), (25, .iload 4, 2), (27, .iload_n 2, 1), (28, .invokevirtual 189, 3), (31, .goto 4, 3), (34, .iconst 0, 1), (35, .iadd, 1), (36, .istore_n 3, 1), (37, .iinc 4 1, 3), (40, .goto (-35), 3), (43, .iload_n 3, 1), (44, .iconst 4, 1), (45, .idiv, 1), (46, .ireturn, 1)])
set_option maxRecDepth 20000 in
theorem tX8_milesBy : ∀ q ∈ mX8_milesBy.2, decode mX8_milesBy.1.2.2.1 q.1 = .ok q.2 := kd_tab cX8_milesBy mX8_milesBy.2 (by decide +kernel)
def mX8_turnBy : kw_M := ((RX8, yX8_turnBy, cX8_turnBy, 5, (some .int)), [(0, .iconst 0, 1), (1, .istore_n 3, 1), (2, .iconst 0, 1), (3, .istore 4, 2), (5, .iload 4, 2), (7, .aload_n 0, 1), (8, .getfield 163, 3), (11, .if_icmp .ge 40, 3), (14, .iload_n 3, 1), (15, .iload_n 1, 1), (16, .iload 4, 2), (18, .invokestatic 185, 3), (21, .ifCond .eq 21, 3), (24, .aload_n 0, 1), (25, .iload 4, 2), (27, .iload_n 2, 1), (28, .invokevirtual 189, 3), (31, .aload_n 0, 1), (32, .getfield 42, 3), (35, .iload 4, 2), (37, .iaload, 1), (38, .imul, 1), (39, .goto 4, 3), (42, .iconst 0, 1), (43, .iadd, 1), (44, .istore_n 3, 1), (45, .iinc 4 1, 3), (48, .goto (-43), 3), (51, .iload_n 3, 1), (52, .ireturn, 1)])
set_option maxRecDepth 20000 in
theorem tX8_turnBy : ∀ q ∈ mX8_turnBy.2, decode mX8_turnBy.1.2.2.1 q.1 = .ok q.2 := kd_tab cX8_turnBy mX8_turnBy.2 (by decide +kernel)
def mX8_linenOf : kw_M := ((RX8, yX8_linenOf, cX8_linenOf, 4, (some .int)), [(0, .iconst 0, 1), (1, .istore_n 2, 1), (2, .iconst 0, 1), (3, .istore_n 3, 1), (4, .iload_n 3, 1), (5, .aload_n 0, 1), (6, .getfield 163, 3), (9, .if_icmp .ge 30, 3), (12, .iload_n 2, 1), (13, .iload_n 1, 1), (14, .iload_n 3, 1), (15, .invokestatic 185, 3), (18, .ifCond .eq 12, 3), (21, .aload_n 0, 1), (22, .getfield 48, 3), (25, .iload_n 3, 1), (26, .iaload, 1), (27, .goto 4, 3), (30, .iconst 0, 1), (31, .iadd, 1), (32, .istore_n 2, 1), (33, .iinc 3 1, 3), (36, .goto (-32), 3), (39, .iload_n 2, 1), (40, .ireturn, 1)])
set_option maxRecDepth 20000 in
theorem tX8_linenOf : ∀ q ∈ mX8_linenOf.2, decode mX8_linenOf.1.2.2.1 q.1 = .ok q.2 := kd_tab cX8_linenOf mX8_linenOf.2 (by decide +kernel)
def mX8_bits : kw_M := ((RX8, yX8_bits, cX8_bits, 3, (some .int)), [(0, .iconst 0, 1), (1, .istore_n 1, 1), (2, .iconst 0, 1), (3, .istore_n 2, 1), (4, .iload_n 2, 1), (5, .bipush 6, 2), (7, .if_icmp .ge 17, 3), (10, .iload_n 1, 1), (11, .iload_n 0, 1), (12, .iload_n 2, 1), (13, .ishr, 1), (14, .iconst 1, 1), (15, .iand, 1), (16, .iadd, 1), (17, .istore_n 1, 1), (18, .iinc 2 1, 3), (21, .goto (-17), 3), (24, .iload_n 1, 1), (25, .ireturn, 1)])
set_option maxRecDepth 20000 in
theorem tX8_bits : ∀ q ∈ mX8_bits.2, decode mX8_bits.1.2.2.1 q.1 = .ok q.2 := kd_tab cX8_bits mX8_bits.2 (by decide +kernel)
def mX8_write : kw_M := ((RX8, yX8_write, cX8_write, 4, none), [(0, .aload_n 1, 1), (1, .iload_n 2, 1), (2, .aload_n 0, 1), (3, .getfield 166, 3), (6, .iastore, 1), (7, .aload_n 1, 1), (8, .iload_n 2, 1), (9, .iconst 1, 1), (10, .iadd, 1), (11, .aload_n 0, 1), (12, .getfield 169, 3), (15, .iastore, 1), (16, .aload_n 1, 1), (17, .iload_n 2, 1), (18, .iconst 2, 1), (19, .iadd, 1), (20, .aload_n 0, 1), (21, .getfield 172, 3), (24, .iastore, 1), (25, .aload_n 1, 1), (26, .iload_n 2, 1), (27, .iconst 3, 1), (28, .iadd, 1), (29, .aload_n 0, 1), (30, .getfield 175, 3), (33, .iastore, 1), (34, .iconst 0, 1), (35, .istore_n 3, 1), (36, .iload_n 3, 1), (37, .bipush 6, 2), (39, .if_icmp .ge 22, 3), (42, .aload_n 1, 1), (43, .iload_n 2, 1), (44, .iconst 4, 1), (45, .iadd, 1), (46, .iload_n 3, 1), (47, .iadd, 1), (48, .aload_n 0, 1), (49, .getfield 57, 3), (52, .iload_n 3, 1), (53, .iaload, 1), (54, .iastore, 1), (55, .iinc 3 1, 3), (58, .goto (-22), 3), (61, .return_, 1)])
set_option maxRecDepth 20000 in
theorem tX8_write : ∀ q ∈ mX8_write.2, decode mX8_write.1.2.2.1 q.1 = .ok q.2 := kd_tab cX8_write mX8_write.2 (by decide +kernel)
def mX8_read : kw_M := ((RX8, yX8_read, cX8_read, 4, none), [(0, .aload_n 0, 1), (1, .aload_n 1, 1), (2, .iload_n 2, 1), (3, .iaload, 1), (4, .putfield 166, 3), (7, .aload_n 0, 1), (8, .aload_n 1, 1), (9, .iload_n 2, 1), (10, .iconst 1, 1), (11, .iadd, 1), (12, .iaload, 1), (13, .putfield 169, 3), (16, .aload_n 0, 1), (17, .aload_n 1, 1), (18, .iload_n 2, 1), (19, .iconst 2, 1), (20, .iadd, 1), (21, .iaload, 1), (22, .putfield 172, 3), (25, .aload_n 0, 1), (26, .aload_n 1, 1), (27, .iload_n 2, 1), (28, .iconst 3, 1), (29, .iadd, 1), (30, .iaload, 1), (31, .putfield 175, 3), (34, .iconst 0, 1), (35, .istore_n 3, 1), (36, .iload_n 3, 1), (37, .bipush 6, 2), (39, .if_icmp .ge 22, 3), (42, .aload_n 0, 1), (43, .getfield 57, 3), (46, .iload_n 3, 1), (47, .aload_n 1, 1), (48, .iload_n 2, 1), (49, .iconst 4, 1), (50, .iadd, 1), (51, .iload_n 3, 1), (52, .iadd, 1), (53, .iaload, 1), (54, .iastore, 1), (55, .iinc 3 1, 3), (58, .goto (-22), 3), (61, .return_, 1)])
set_option maxRecDepth 20000 in
theorem tX8_read : ∀ q ∈ mX8_read.2, decode mX8_read.1.2.2.1 q.1 = .ok q.2 := kd_tab cX8_read mX8_read.2 (by decide +kernel)
def mX8_note : kw_M := ((RX8, yX8_note, cX8_note, 1, none), [(0, .aload_n 0, 1), (1, .aload_n 0, 1), (2, .getfield 60, 3), (5, .bipush 10, 2), (7, .aload_n 0, 1), (8, .getfield 178, 3), (11, .imul, 1), (12, .invokevirtual 192, 3), (15, .aload_n 0, 1), (16, .dup, 1), (17, .getfield 178, 3), (20, .iconst 1, 1), (21, .iadd, 1), (22, .putfield 178, 3), (25, .return_, 1)])
set_option maxRecDepth 20000 in
theorem tX8_note : ∀ q ∈ mX8_note.2, decode mX8_note.1.2.2.1 q.1 = .ok q.2 := kd_tab cX8_note mX8_note.2 (by decide +kernel)
def mX8_wetBehind : kw_M := ((RX8, yX8_wetBehind, cX8_wetBehind, 3, (some .int)), [(0, .iload_n 2, 1), (1, .ifCond .ne 22, 3), (4, .iload_n 1, 1), (5, .iconst 2, 1), (6, .iadd, 1), (7, .bipush 9, 2), (9, .if_icmp .le 8, 3), (12, .bipush 9, 2), (14, .goto 20, 3), (17, .iload_n 1, 1), (18, .iconst 2, 1), (19, .iadd, 1), (20, .goto 14, 3), (23, .iload_n 1, 1), (24, .ifCond .le 9, 3), (27, .iload_n 1, 1), (28, .iconst 1, 1), (29, .isub, 1), (30, .goto 4, 3), (33, .iconst 0, 1), (34, .ireturn, 1)])
set_option maxRecDepth 20000 in
theorem tX8_wetBehind : ∀ q ∈ mX8_wetBehind.2, decode mX8_wetBehind.1.2.2.1 q.1 = .ok q.2 := kd_tab cX8_wetBehind mX8_wetBehind.2 (by decide +kernel)
def mX8_pass : kw_M := ((RX8, yX8_pass, cX8_pass, 4, none), [(0, .aload_n 0, 1), (1, .aload_n 0, 1), (2, .getfield 166, 3), (5, .invokevirtual 196, 3), (8, .istore_n 2, 1), (9, .aload_n 0, 1), (10, .dup, 1), (11, .getfield 169, 3), (14, .aload_n 0, 1), (15, .iload_n 1, 1), (16, .iload_n 2, 1), (17, .invokevirtual 199, 3), (20, .iadd, 1), (21, .putfield 169, 3), (24, .aload_n 0, 1), (25, .dup, 1), (26, .getfield 172, 3), (29, .aload_n 0, 1), (30, .iload_n 1, 1), (31, .iload_n 2, 1), (32, .invokevirtual 202, 3), (35, .iadd, 1), (36, .putfield 172, 3), (39, .iconst 0, 1), (40, .istore_n 3, 1), (41, .iload_n 3, 1), (42, .aload_n 0, 1), (43, .getfield 163, 3), (46, .if_icmp .ge 43, 3), (49, .aload_n 0, 1), (50, .getfield 57, 3), (53, .iload_n 3, 1), (54, .iload_n 1, 1), (55, .iload_n 3, 1), (56, .invokestatic 185, 3), (59, .ifCond .eq 17, 3), (62, .aload_n 0, 1), (63, .aload_n 0, 1), (64, .getfield 57, 3), (67, .iload_n 3, 1), (68, .iaload, 1), (69, .iload_n 2, 1), (70, .invokevirtual 205, 3), (73, .goto 9, 3), (76, .aload_n 0, 1), (77, .getfield 57, 3), (80, .iload_n 3, 1), (81, .iaload, 1), (82, .iastore, 1), (83, .iinc 3 1, 3), (86, .goto (-45), 3), (89, .aload_n 0, 1), (90, .dup, 1), (91, .getfield 166, 3), (94, .iconst 1, 1), (95, .iadd, 1), (96, .putfield 166, 3), (99, .return_, 1)])
set_option maxRecDepth 20000 in
theorem tX8_pass : ∀ q ∈ mX8_pass.2, decode mX8_pass.1.2.2.1 q.1 = .ok q.2 := kd_tab cX8_pass mX8_pass.2 (by decide +kernel)
def mX8_turnLine : kw_M := ((RX8, yX8_turnLine, cX8_turnLine, 2, none), [(0, .aload_n 0, 1), (1, .invokevirtual 208, 3), (4, .aload_n 0, 1), (5, .dup, 1), (6, .getfield 175, 3), (9, .iconst 1, 1), (10, .iload_n 1, 1), (11, .ishl, 1), (12, .ixor, 1), (13, .putfield 175, 3), (16, .return_, 1)])
set_option maxRecDepth 20000 in
theorem tX8_turnLine : ∀ q ∈ mX8_turnLine.2, decode mX8_turnLine.1.2.2.1 q.1 = .ok q.2 := kd_tab cX8_turnLine mX8_turnLine.2 (by decide +kernel)
def mX8_hang : kw_M := ((RX8, yX8_hang, cX8_hang, 2, (some .int)), [(0, .aload_n 0, 1), (1, .iload_n 1, 1), (2, .invokevirtual 211, 3), (5, .ifCond .ne 5, 3), (8, .iconst (-1), 1), (9, .ireturn, 1), (10, .aload_n 0, 1), (11, .getfield 175, 3), (14, .iload_n 1, 1), (15, .invokestatic 185, 3), (18, .ifCond .eq 6, 3), (21, .bipush (-4), 2), (23, .ireturn, 1), (24, .aload_n 0, 1), (25, .getfield 178, 3), (28, .bipush 40, 2), (30, .if_icmp .ne 6, 3), (33, .bipush (-2), 2), (35, .ireturn, 1), (36, .aload_n 0, 1), (37, .iload_n 1, 1), (38, .invokevirtual 214, 3), (41, .aload_n 0, 1), (42, .getfield 175, 3), (45, .invokestatic 217, 3), (48, .ireturn, 1)])
set_option maxRecDepth 20000 in
theorem tX8_hang : ∀ q ∈ mX8_hang.2, decode mX8_hang.1.2.2.1 q.1 = .ok q.2 := kd_tab cX8_hang mX8_hang.2 (by decide +kernel)
def mX8_take : kw_M := ((RX8, yX8_take, cX8_take, 2, (some .int)), [(0, .aload_n 0, 1), (1, .iload_n 1, 1), (2, .invokevirtual 211, 3), (5, .ifCond .ne 5, 3), (8, .iconst (-1), 1), (9, .ireturn, 1), (10, .aload_n 0, 1), (11, .getfield 175, 3), (14, .iload_n 1, 1), (15, .invokestatic 185, 3), (18, .ifCond .ne 6, 3), (21, .bipush (-4), 2), (23, .ireturn, 1), (24, .aload_n 0, 1), (25, .getfield 178, 3), (28, .bipush 40, 2), (30, .if_icmp .ne 6, 3), (33, .bipush (-2), 2), (35, .ireturn, 1), (36, .aload_n 0, 1), (37, .iload_n 1, 1), (38, .invokevirtual 214, 3), (41, .aload_n 0, 1), (42, .getfield 57, 3), (45, .iload_n 1, 1), (46, .iaload, 1), (47, .ireturn, 1)])
set_option maxRecDepth 20000 in
theorem tX8_take : ∀ q ∈ mX8_take.2, decode mX8_take.1.2.2.1 q.1 = .ok q.2 := kd_tab cX8_take mX8_take.2 (by decide +kernel)
def mX8_hour : kw_M := ((RX8, yX8_hour, cX8_hour, 1, (some .int)), [(0, .aload_n 0, 1), (1, .getfield 163, 3), (4, .ifCond .ne 6, 3), (7, .bipush (-4), 2), (9, .ireturn, 1), (10, .aload_n 0, 1), (11, .getfield 178, 3), (14, .bipush 40, 2), (16, .if_icmp .ne 6, 3), (19, .bipush (-2), 2), (21, .ireturn, 1), (22, .aload_n 0, 1), (23, .invokevirtual 208, 3), (26, .aload_n 0, 1), (27, .aload_n 0, 1), (28, .getfield 175, 3), (31, .invokevirtual 220, 3), (34, .aload_n 0, 1), (35, .aload_n 0, 1), (36, .getfield 172, 3), (39, .i2l, 1), (40, .lconst 1, 1), (41, .invokevirtual 223, 3), (44, .pop, 1), (45, .aload_n 0, 1), (46, .aload_n 0, 1), (47, .getfield 169, 3), (50, .iconst 1, 1), (51, .invokevirtual 119, 3), (54, .ireturn, 1)])
set_option maxRecDepth 20000 in
theorem tX8_hour : ∀ q ∈ mX8_hour.2, decode mX8_hour.1.2.2.1 q.1 = .ok q.2 := kd_tab cX8_hour mX8_hour.2 (by decide +kernel)
def mX8_undo : kw_M := ((RX8, yX8_undo, cX8_undo, 3, (some .int)), [(0, .iload_n 1, 1), (1, .iconst 0, 1), (2, .aload_n 0, 1), (3, .getfield 178, 3), (6, .invokestatic 93, 3), (9, .ifCond .ne 5, 3), (12, .iconst (-1), 1), (13, .ireturn, 1), (14, .aload_n 0, 1), (15, .getfield 178, 3), (18, .iload_n 1, 1), (19, .isub, 1), (20, .istore_n 2, 1), (21, .iload_n 2, 1), (22, .ifCond .le 20, 3), (25, .aload_n 0, 1), (26, .aload_n 0, 1), (27, .getfield 60, 3), (30, .bipush 10, 2), (32, .iload_n 1, 1), (33, .imul, 1), (34, .invokevirtual 227, 3), (37, .aload_n 0, 1), (38, .iload_n 1, 1), (39, .putfield 178, 3), (42, .iload_n 2, 1), (43, .ireturn, 1)])
set_option maxRecDepth 20000 in
theorem tX8_undo : ∀ q ∈ mX8_undo.2, decode mX8_undo.1.2.2.1 q.1 = .ok q.2 := kd_tab cX8_undo mX8_undo.2 (by decide +kernel)
def mX8_keep : kw_M := ((RX8, yX8_keep, cX8_keep, 4, (some .int)), [(0, .iload_n 1, 1), (1, .iconst 0, 1), (2, .iconst 2, 1), (3, .invokestatic 93, 3), (6, .ifCond .ne 5, 3), (9, .iconst (-1), 1), (10, .ireturn, 1), (11, .aload_n 0, 1), (12, .getfield 163, 3), (15, .ifCond .ne 6, 3), (18, .bipush (-4), 2), (20, .ireturn, 1), (21, .sipush 411, 3), (24, .iload_n 1, 1), (25, .imul, 1), (26, .istore_n 2, 1), (27, .iconst 0, 1), (28, .istore_n 3, 1), (29, .iload_n 3, 1), (30, .bipush 10, 2), (32, .aload_n 0, 1), (33, .getfield 178, 3), (36, .imul, 1), (37, .if_icmp .ge 23, 3), (40, .aload_n 0, 1), (41, .getfield 66, 3), (44, .iload_n 2, 1), (45, .iload_n 3, 1), (46, .iadd, 1), (47, .aload_n 0, 1), (48, .getfield 60, 3), (51, .iload_n 3, 1), (52, .iaload, 1), (53, .iastore, 1), (54, .iinc 3 1, 3), (57, .goto (-28), 3), (60, .aload_n 0, 1), (61, .aload_n 0, 1), (62, .getfield 66, 3), (65, .iload_n 2, 1), (66, .sipush 400, 3), (69, .iadd, 1), (70, .invokevirtual 192, 3), (73, .aload_n 0, 1), (74, .getfield 66, 3), (77, .iload_n 2, 1), (78, .sipush 410, 3), (81, .iadd, 1), (82, .aload_n 0, 1), (83, .getfield 178, 3), (86, .iastore, 1), (87, .aload_n 0, 1), (88, .getfield 63, 3), (91, .iload_n 1, 1), (92, .iconst 1, 1), (93, .iastore, 1), (94, .aload_n 0, 1), (95, .getfield 178, 3), (98, .ireturn, 1)])
set_option maxRecDepth 20000 in
theorem tX8_keep : ∀ q ∈ mX8_keep.2, decode mX8_keep.1.2.2.1 q.1 = .ok q.2 := kd_tab cX8_keep mX8_keep.2 (by decide +kernel)
def mX8_on : kw_M := ((RX8, yX8_on, cX8_on, 4, (some .int)), [(0, .iload_n 1, 1), (1, .iconst 0, 1), (2, .iconst 2, 1), (3, .invokestatic 93, 3), (6, .ifCond .ne 5, 3), (9, .iconst (-1), 1), (10, .ireturn, 1), (11, .aload_n 0, 1), (12, .getfield 63, 3), (15, .iload_n 1, 1), (16, .iaload, 1), (17, .ifCond .ne 9, 3), (20, .aload_n 0, 1), (21, .iconst 1, 1), (22, .invokevirtual 101, 3), (25, .ireturn, 1), (26, .sipush 411, 3), (29, .iload_n 1, 1), (30, .imul, 1), (31, .istore_n 2, 1), (32, .aload_n 0, 1), (33, .aload_n 0, 1), (34, .getfield 66, 3), (37, .iload_n 2, 1), (38, .sipush 400, 3), (41, .iadd, 1), (42, .invokevirtual 227, 3), (45, .aload_n 0, 1), (46, .aload_n 0, 1), (47, .getfield 66, 3), (50, .iload_n 2, 1), (51, .sipush 410, 3), (54, .iadd, 1), (55, .iaload, 1), (56, .putfield 178, 3), (59, .iconst 0, 1), (60, .istore_n 3, 1), (61, .iload_n 3, 1), (62, .bipush 10, 2), (64, .aload_n 0, 1), (65, .getfield 178, 3), (68, .imul, 1), (69, .if_icmp .ge 23, 3), (72, .aload_n 0, 1), (73, .getfield 60, 3), (76, .iload_n 3, 1), (77, .aload_n 0, 1), (78, .getfield 66, 3), (81, .iload_n 2, 1), (82, .iload_n 3, 1), (83, .iadd, 1), (84, .iaload, 1), (85, .iastore, 1), (86, .iinc 3 1, 3), (89, .goto (-28), 3), (92, .aload_n 0, 1), (93, .getfield 178, 3), (96, .ireturn, 1)])
set_option maxRecDepth 20000 in
theorem tX8_on : ∀ q ∈ mX8_on.2, decode mX8_on.1.2.2.1 q.1 = .ok q.2 := kd_tab cX8_on mX8_on.2 (by decide +kernel)
def mX8_lineOf : kw_M := ((RX8, yX8_lineOf, cX8_lineOf, 3, (some .int)), [(0, .iload_n 2, 1), (1, .tableswitch 83 0 5 #[39, 46, 53, 60, 67, 76], 39), (40, .aload_n 0, 1), (41, .getfield 39, 3), (44, .iload_n 1, 1), (45, .iaload, 1), (46, .ireturn, 1), (47, .aload_n 0, 1), (48, .getfield 42, 3), (51, .iload_n 1, 1), (52, .iaload, 1), (53, .ireturn, 1), (54, .aload_n 0, 1), (55, .getfield 45, 3), (58, .iload_n 1, 1), (59, .iaload, 1), (60, .ireturn, 1), (61, .aload_n 0, 1), (62, .getfield 48, 3), (65, .iload_n 1, 1), (66, .iaload, 1), (67, .ireturn, 1), (68, .aload_n 0, 1), (69, .getfield 175, 3), (72, .iload_n 1, 1), (73, .ishr, 1), (74, .iconst 1, 1), (75, .iand, 1), (76, .ireturn, 1), (77, .aload_n 0, 1), (78, .getfield 57, 3), (81, .iload_n 1, 1), (82, .iaload, 1), (83, .ireturn, 1), (84, .aload_n 0, 1), (85, .iload_n 1, 1), (86, .aload_n 0, 1), (87, .aload_n 0, 1), (88, .getfield 166, 3), (91, .invokevirtual 196, 3), (94, .invokevirtual 189, 3), (97, .ireturn, 1)])
set_option maxRecDepth 20000 in
theorem tX8_lineOf : ∀ q ∈ mX8_lineOf.2, decode mX8_lineOf.1.2.2.1 q.1 = .ok q.2 := kd_tab cX8_lineOf mX8_lineOf.2 (by decide +kernel)
def mX8_line : kw_M := ((RX8, yX8_line, cX8_line, 3, (some .int)), [(0, .aload_n 0, 1), (1, .iload_n 1, 1), (2, .invokevirtual 211, 3), (5, .ifCond .eq 27, 3), (8, .iload_n 2, 1), (9, .iconst 0, 1), (10, .bipush 6, 2), (12, .invokestatic 93, 3), (15, .ifCond .eq 17, 3), (18, .aload_n 0, 1), (19, .aload_n 0, 1), (20, .iload_n 1, 1), (21, .iload_n 2, 1), (22, .invokevirtual 230, 3), (25, .iconst 1, 1), (26, .invokevirtual 119, 3), (29, .goto 4, 3), (32, .iconst (-1), 1), (33, .ireturn, 1)])
set_option maxRecDepth 20000 in
theorem tX8_line : ∀ q ∈ mX8_line.2, decode mX8_line.1.2.2.1 q.1 = .ok q.2 := kd_tab cX8_line mX8_line.2 (by decide +kernel)
def mX8_isA : kw_M := ((RX8, yX8_isA, cX8_isA, 2, (some .boolean)), [(0, .iload_n 0, 1), (1, .iload_n 1, 1), (2, .if_icmp .eq 23, 3), (5, .iload_n 1, 1), (6, .iconst 1, 1), (7, .if_icmp .ne 8, 3), (10, .iload_n 0, 1), (11, .iconst 4, 1), (12, .if_icmp .ge 13, 3), (15, .iload_n 1, 1), (16, .iconst 4, 1), (17, .if_icmp .ne 12, 3), (20, .iload_n 0, 1), (21, .iconst 5, 1), (22, .if_icmp .ne 7, 3), (25, .iconst 1, 1), (26, .goto 4, 3), (29, .iconst 0, 1), (30, .ireturn, 1)])
set_option maxRecDepth 20000 in
theorem tX8_isA : ∀ q ∈ mX8_isA.2, decode mX8_isA.1.2.2.1 q.1 = .ok q.2 := kd_tab cX8_isA mX8_isA.2 (by decide +kernel)
def mX8_howMany : kw_M := ((RX8, yX8_howMany, cX8_howMany, 4, (some .int)), [(0, .iconst 0, 1), (1, .istore_n 2, 1), (2, .iconst 0, 1), (3, .istore_n 3, 1), (4, .iload_n 3, 1), (5, .aload_n 0, 1), (6, .getfield 163, 3), (9, .if_icmp .ge 30, 3), (12, .iload_n 2, 1), (13, .aload_n 0, 1), (14, .getfield 39, 3), (17, .iload_n 3, 1), (18, .iaload, 1), (19, .iload_n 1, 1), (20, .invokestatic 233, 3), (23, .ifCond .eq 7, 3), (26, .iconst 1, 1), (27, .goto 4, 3), (30, .iconst 0, 1), (31, .iadd, 1), (32, .istore_n 2, 1), (33, .iinc 3 1, 3), (36, .goto (-32), 3), (39, .iload_n 2, 1), (40, .ireturn, 1)])
set_option maxRecDepth 20000 in
theorem tX8_howMany : ∀ q ∈ mX8_howMany.2, decode mX8_howMany.1.2.2.1 q.1 = .ok q.2 := kd_tab cX8_howMany mX8_howMany.2 (by decide +kernel)
def mX8_hoursTill : kw_M := ((RX8, yX8_hoursTill, cX8_hoursTill, 2, (some .int)), [(0, .iconst 0, 1), (1, .istore_n 1, 1), (2, .iload_n 1, 1), (3, .bipush 8, 2), (5, .if_icmp .ge 23, 3), (8, .aload_n 0, 1), (9, .aload_n 0, 1), (10, .getfield 166, 3), (13, .iload_n 1, 1), (14, .iadd, 1), (15, .invokevirtual 196, 3), (18, .iconst 3, 1), (19, .if_icmp .ge 9, 3), (22, .iinc 1 1, 3), (25, .goto (-23), 3), (28, .iload_n 1, 1), (29, .bipush 8, 2), (31, .if_icmp .ge 7, 3), (34, .iload_n 1, 1), (35, .goto 5, 3), (38, .bipush (-9), 2), (40, .ireturn, 1)])
set_option maxRecDepth 20000 in
theorem tX8_hoursTill : ∀ q ∈ mX8_hoursTill.2, decode mX8_hoursTill.1.2.2.1 q.1 = .ok q.2 := kd_tab cX8_hoursTill mX8_hoursTill.2 (by decide +kernel)
def mX8_lesserOnes : kw_M := ((RX8, yX8_lesserOnes, cX8_lesserOnes, 4, (some .int)), [(0, .iconst 0, 1), (1, .istore_n 2, 1), (2, .iconst 0, 1), (3, .istore_n 3, 1), (4, .iload_n 3, 1), (5, .aload_n 0, 1), (6, .getfield 163, 3), (9, .if_icmp .ge 37, 3), (12, .iload_n 2, 1), (13, .iload_n 3, 1), (14, .iload_n 1, 1), (15, .if_icmp .eq 22, 3), (18, .aload_n 0, 1), (19, .getfield 45, 3), (22, .iload_n 3, 1), (23, .iaload, 1), (24, .aload_n 0, 1), (25, .getfield 45, 3), (28, .iload_n 1, 1), (29, .iaload, 1), (30, .if_icmp .gt 7, 3), (33, .iconst 1, 1), (34, .goto 4, 3), (37, .iconst 0, 1), (38, .iadd, 1), (39, .istore_n 2, 1), (40, .iinc 3 1, 3), (43, .goto (-39), 3), (46, .iload_n 2, 1), (47, .ireturn, 1)])
set_option maxRecDepth 20000 in
theorem tX8_lesserOnes : ∀ q ∈ mX8_lesserOnes.2, decode mX8_lesserOnes.1.2.2.1 q.1 = .ok q.2 := kd_tab cX8_lesserOnes mX8_lesserOnes.2 (by decide +kernel)
def mX8_mark : kw_M := ((RX8, yX8_mark, cX8_mark, 4, (some .int)), [(0, .aload_n 0, 1), (1, .iload_n 1, 1), (2, .invokevirtual 211, 3), (5, .ifCond .eq 12, 3), (8, .iload_n 2, 1), (9, .iconst 1, 1), (10, .iconst 5, 1), (11, .invokestatic 93, 3), (14, .ifCond .ne 5, 3), (17, .iconst (-1), 1), (18, .ireturn, 1), (19, .aload_n 0, 1), (20, .getfield 39, 3), (23, .iload_n 1, 1), (24, .iaload, 1), (25, .iload_n 2, 1), (26, .invokestatic 233, 3), (29, .ifCond .ne 9, 3), (32, .aload_n 0, 1), (33, .iconst 3, 1), (34, .invokevirtual 101, 3), (37, .ireturn, 1), (38, .aload_n 0, 1), (39, .aload_n 0, 1), (40, .getfield 166, 3), (43, .invokevirtual 196, 3), (46, .istore_n 3, 1), (47, .iload_n 2, 1), (48, .tableswitch 64 1 4 #[32, 39, 44, 58], 32), (80, .aload_n 0, 1), (81, .iload_n 1, 1), (82, .iconst 5, 1), (83, .invokevirtual 189, 3), (86, .ireturn, 1), (87, .aload_n 0, 1), (88, .invokevirtual 236, 3), (91, .ireturn, 1), (92, .aload_n 0, 1), (93, .getfield 175, 3), (96, .iconst 1, 1), (97, .iload_n 1, 1), (98, .ishl, 1), (99, .iconst (-1), 1), (100, .ixor, 1), (101, .iand, 1), (102, .invokestatic 217, 3), (105, .ireturn, 1), (106, .aload_n 0, 1), (107, .iload_n 1, 1), (108, .invokevirtual 240, 3), (111, .ireturn, 1), (112, .iconst 4, 1), (113, .aload_n 0, 1), (114, .getfield 45, 3), (117, .iload_n 1, 1), (118, .iaload, 1), (119, .iload_n 3, 1), (120, .invokestatic 181, 3), (123, .aload_n 0, 1), (124, .iload_n 1, 1), (125, .iload_n 3, 1), (126, .invokevirtual 189, 3), (129, .isub, 1), (130, .ireturn, 1)])
set_option maxRecDepth 20000 in
theorem tX8_mark : ∀ q ∈ mX8_mark.2, decode mX8_mark.1.2.2.1 q.1 = .ok q.2 := kd_tab cX8_mark mX8_mark.2 (by decide +kernel)
def mX8_wind : kw_M := ((RX8, yX8_wind, cX8_wind, 2, (some .int)), [(0, .iload_n 1, 1), (1, .iconst 0, 1), (2, .sipush 999, 3), (5, .invokestatic 93, 3), (8, .ifCond .ne 5, 3), (11, .iconst (-1), 1), (12, .ireturn, 1), (13, .aload_n 0, 1), (14, .getfield 163, 3), (17, .ifCond .ne 8, 3), (20, .bipush (-4), 2), (22, .goto 8, 3), (25, .aload_n 0, 1), (26, .iload_n 1, 1), (27, .invokevirtual 196, 3), (30, .ireturn, 1)])
set_option maxRecDepth 20000 in
theorem tX8_wind : ∀ q ∈ mX8_wind.2, decode mX8_wind.1.2.2.1 q.1 = .ok q.2 := kd_tab cX8_wind mX8_wind.2 (by decide +kernel)
def mX8_goes : kw_M := ((RX8, yX8_goes, cX8_goes, 3, (some .int)), [(0, .aload_n 0, 1), (1, .iload_n 1, 1), (2, .invokevirtual 243, 3), (5, .ifCond .ne 5, 3), (8, .iconst (-1), 1), (9, .ireturn, 1), (10, .aload_n 0, 1), (11, .aload_n 0, 1), (12, .getfield 166, 3), (15, .invokevirtual 196, 3), (18, .istore_n 2, 1), (19, .aload_n 0, 1), (20, .aload_n 0, 1), (21, .iload_n 1, 1), (22, .iload_n 2, 1), (23, .invokevirtual 202, 3), (26, .i2l, 1), (27, .lconst 1, 1), (28, .invokevirtual 223, 3), (31, .pop, 1), (32, .aload_n 0, 1), (33, .aload_n 0, 1), (34, .iload_n 1, 1), (35, .iload_n 2, 1), (36, .invokevirtual 199, 3), (39, .iconst 1, 1), (40, .invokevirtual 119, 3), (43, .ireturn, 1)])
set_option maxRecDepth 20000 in
theorem tX8_goes : ∀ q ∈ mX8_goes.2, decode mX8_goes.1.2.2.1 q.1 = .ok q.2 := kd_tab cX8_goes mX8_goes.2 (by decide +kernel)
def mX8_even : kw_M := ((RX8, yX8_even, cX8_even, 6, (some .int)), [(0, .iload_n 1, 1), (1, .bipush (-99), 2), (3, .bipush 99, 2), (5, .invokestatic 93, 3), (8, .ifCond .ne 5, 3), (11, .iconst (-1), 1), (12, .ireturn, 1), (13, .aload_n 0, 1), (14, .getfield 163, 3), (17, .ifCond .ne 6, 3), (20, .bipush (-4), 2), (22, .ireturn, 1), (23, .aload_n 0, 1), (24, .aload_n 0, 1), (25, .getfield 166, 3), (28, .invokevirtual 196, 3), (31, .istore_n 2, 1), (32, .iconst 0, 1), (33, .istore_n 3, 1), (34, .bipush (-9), 2), (36, .istore 4, 2), (38, .iconst 0, 1), (39, .istore 5, 2), (41, .iload 5, 2), (43, .iconst 1, 1), (44, .aload_n 0, 1), (45, .getfield 163, 3), (48, .ishl, 1), (49, .if_icmp .ge 64, 3), (52, .aload_n 0, 1), (53, .iload 5, 2), (55, .iload_n 2, 1), (56, .invokevirtual 199, 3), (59, .iload_n 1, 1), (60, .if_icmp .ne 47, 3), (63, .aload_n 0, 1), (64, .iload 5, 2), (66, .iload_n 2, 1), (67, .invokevirtual 202, 3), (70, .ifCond .ne 37, 3), (73, .iinc 3 1, 3), (76, .iload 4, 2), (78, .bipush (-9), 2), (80, .if_icmp .eq 18, 3), (83, .aload_n 0, 1), (84, .iload 5, 2), (86, .invokevirtual 246, 3), (89, .aload_n 0, 1), (90, .iload 4, 2), (92, .invokevirtual 246, 3), (95, .if_icmp .ge 8, 3), (98, .iload 5, 2), (100, .goto 5, 3), (103, .iload 4, 2), (105, .istore 4, 2), (107, .iinc 5 1, 3), (110, .goto (-69), 3), (113, .aload_n 0, 1), (114, .iload_n 3, 1), (115, .i2l, 1), (116, .lconst 1, 1), (117, .invokevirtual 223, 3), (120, .pop, 1), (121, .aload_n 0, 1), (122, .iload 4, 2), (124, .iconst 1, 1), (125, .invokevirtual 119, 3), (128, .ireturn, 1)])
set_option maxRecDepth 20000 in
theorem tX8_even : ∀ q ∈ mX8_even.2, decode mX8_even.1.2.2.1 q.1 = .ok q.2 := kd_tab cX8_even mX8_even.2 (by decide +kernel)
def mX8_fast : kw_M := ((RX8, yX8_fast, cX8_fast, 5, (some .int)), [(0, .iload_n 1, 1), (1, .iconst 0, 1), (2, .bipush 99, 2), (4, .invokestatic 93, 3), (7, .ifCond .ne 5, 3), (10, .iconst (-1), 1), (11, .ireturn, 1), (12, .aload_n 0, 1), (13, .getfield 163, 3), (16, .ifCond .ne 6, 3), (19, .bipush (-4), 2), (21, .ireturn, 1), (22, .aload_n 0, 1), (23, .aload_n 0, 1), (24, .getfield 166, 3), (27, .invokevirtual 196, 3), (30, .istore_n 2, 1), (31, .iconst 0, 1), (32, .istore_n 3, 1), (33, .iconst 1, 1), (34, .istore 4, 2), (36, .iload 4, 2), (38, .iconst 1, 1), (39, .aload_n 0, 1), (40, .getfield 163, 3), (43, .ishl, 1), (44, .if_icmp .ge 42, 3), (47, .aload_n 0, 1), (48, .iload 4, 2), (50, .invokevirtual 246, 3), (53, .iload_n 1, 1), (54, .if_icmp .gt 24, 3), (57, .aload_n 0, 1), (58, .iload 4, 2), (60, .iload_n 2, 1), (61, .invokevirtual 199, 3), (64, .aload_n 0, 1), (65, .iload_n 3, 1), (66, .iload_n 2, 1), (67, .invokevirtual 199, 3), (70, .if_icmp .le 8, 3), (73, .iload 4, 2), (75, .goto 4, 3), (78, .iload_n 3, 1), (79, .istore_n 3, 1), (80, .iinc 4 1, 3), (83, .goto (-47), 3), (86, .aload_n 0, 1), (87, .iload_n 3, 1), (88, .aload_n 0, 1), (89, .iload_n 3, 1), (90, .iload_n 2, 1), (91, .invokevirtual 199, 3), (94, .invokevirtual 119, 3), (97, .ireturn, 1)])
set_option maxRecDepth 20000 in
theorem tX8_fast : ∀ q ∈ mX8_fast.2, decode mX8_fast.1.2.2.1 q.1 = .ok q.2 := kd_tab cX8_fast mX8_fast.2 (by decide +kernel)
def mX8_wetOfAll : kw_M := ((RX8, yX8_wetOfAll, cX8_wetOfAll, 3, (some .int)), [(0, .iconst 0, 1), (1, .istore_n 1, 1), (2, .iconst 0, 1), (3, .istore_n 2, 1), (4, .iload_n 2, 1), (5, .aload_n 0, 1), (6, .getfield 163, 3), (9, .if_icmp .ge 18, 3), (12, .iload_n 1, 1), (13, .aload_n 0, 1), (14, .getfield 57, 3), (17, .iload_n 2, 1), (18, .iaload, 1), (19, .iadd, 1), (20, .istore_n 1, 1), (21, .iinc 2 1, 3), (24, .goto (-20), 3), (27, .iload_n 1, 1), (28, .ireturn, 1)])
set_option maxRecDepth 20000 in
theorem tX8_wetOfAll : ∀ q ∈ mX8_wetOfAll.2, decode mX8_wetOfAll.1.2.2.1 q.1 = .ok q.2 := kd_tab cX8_wetOfAll mX8_wetOfAll.2 (by decide +kernel)
def mX8_wet : kw_M := ((RX8, yX8_wet, cX8_wet, 3, (some .int)), [(0, .iconst 0, 1), (1, .istore_n 1, 1), (2, .iconst 0, 1), (3, .istore_n 2, 1), (4, .iload_n 2, 1), (5, .aload_n 0, 1), (6, .getfield 163, 3), (9, .if_icmp .ge 28, 3), (12, .iload_n 1, 1), (13, .aload_n 0, 1), (14, .getfield 57, 3), (17, .iload_n 2, 1), (18, .iaload, 1), (19, .ifCond .le 9, 3), (22, .iconst 1, 1), (23, .iload_n 2, 1), (24, .ishl, 1), (25, .goto 4, 3), (28, .iconst 0, 1), (29, .ior, 1), (30, .istore_n 1, 1), (31, .iinc 2 1, 3), (34, .goto (-30), 3), (37, .aload_n 0, 1), (38, .aload_n 0, 1), (39, .invokevirtual 249, 3), (42, .iload_n 1, 1), (43, .invokevirtual 119, 3), (46, .ireturn, 1)])
set_option maxRecDepth 20000 in
theorem tX8_wet : ∀ q ∈ mX8_wet.2, decode mX8_wet.1.2.2.1 q.1 = .ok q.2 := kd_tab cX8_wet mX8_wet.2 (by decide +kernel)
def mX8_askedPlan : kw_M := ((RX8, yX8_askedPlan, cX8_askedPlan, 3, (some .int)), [(0, .iload_n 1, 1), (1, .invokestatic 97, 3), (4, .ifCond .ne 5, 3), (7, .iconst (-1), 1), (8, .ireturn, 1), (9, .aload_n 0, 1), (10, .getfield 163, 3), (13, .ifCond .ne 6, 3), (16, .bipush (-4), 2), (18, .ireturn, 1), (19, .aload_n 0, 1), (20, .getfield 17, 3), (23, .iload_n 1, 1), (24, .iaload, 1), (25, .ifCond .ge 9, 3), (28, .aload_n 0, 1), (29, .iconst 1, 1), (30, .invokevirtual 101, 3), (33, .ireturn, 1), (34, .aload_n 0, 1), (35, .getfield 17, 3), (38, .iload_n 1, 1), (39, .iaload, 1), (40, .bipush 6, 2), (42, .if_icmp .le 9, 3), (45, .aload_n 0, 1), (46, .iconst 5, 1), (47, .invokevirtual 101, 3), (50, .ireturn, 1), (51, .iconst 0, 1), (52, .istore_n 2, 1), (53, .iload_n 2, 1), (54, .aload_n 0, 1), (55, .getfield 17, 3), (58, .iload_n 1, 1), (59, .iaload, 1), (60, .if_icmp .ge 28, 3), (63, .aload_n 0, 1), (64, .aload_n 0, 1), (65, .iload_n 1, 1), (66, .iload_n 2, 1), (67, .invokevirtual 115, 3), (70, .invokevirtual 243, 3), (73, .ifCond .ne 9, 3), (76, .aload_n 0, 1), (77, .iconst 3, 1), (78, .invokevirtual 101, 3), (81, .ireturn, 1), (82, .iinc 2 1, 3), (85, .goto (-32), 3), (88, .iconst 0, 1), (89, .ireturn, 1)])
set_option maxRecDepth 20000 in
theorem tX8_askedPlan : ∀ q ∈ mX8_askedPlan.2, decode mX8_askedPlan.1.2.2.1 q.1 = .ok q.2 := kd_tab cX8_askedPlan mX8_askedPlan.2 (by decide +kernel)
def mX8_sail : kw_M := ((RX8, yX8_sail, cX8_sail, 6, (some .int)), [(0, .aload_n 0, 1), (1, .iload_n 1, 1), (2, .invokevirtual 252, 3), (5, .istore_n 2, 1), (6, .iload_n 2, 1), (7, .ifCond .ge 5, 3), (10, .iload_n 2, 1), (11, .ireturn, 1), (12, .aload_n 0, 1), (13, .getfield 169, 3), (16, .istore_n 3, 1), (17, .aload_n 0, 1), (18, .getfield 172, 3), (21, .istore 4, 2), (23, .iconst 0, 1), (24, .istore 5, 2), (26, .iload 5, 2), (28, .aload_n 0, 1), (29, .getfield 17, 3), (32, .iload_n 1, 1), (33, .iaload, 1), (34, .if_icmp .ge 61, 3), (37, .iload_n 3, 1), (38, .aload_n 0, 1), (39, .aload_n 0, 1), (40, .iload_n 1, 1), (41, .iload 5, 2), (43, .invokevirtual 115, 3), (46, .aload_n 0, 1), (47, .aload_n 0, 1), (48, .getfield 166, 3), (51, .iload 5, 2), (53, .iadd, 1), (54, .invokevirtual 196, 3), (57, .invokevirtual 199, 3), (60, .iadd, 1), (61, .istore_n 3, 1), (62, .iload 4, 2), (64, .aload_n 0, 1), (65, .aload_n 0, 1), (66, .iload_n 1, 1), (67, .iload 5, 2), (69, .invokevirtual 115, 3), (72, .aload_n 0, 1), (73, .aload_n 0, 1), (74, .getfield 166, 3), (77, .iload 5, 2), (79, .iadd, 1), (80, .invokevirtual 196, 3), (83, .invokevirtual 202, 3), (86, .iadd, 1), (87, .istore 4, 2), (89, .iinc 5 1, 3), (92, .goto (-66), 3), (95, .aload_n 0, 1), (96, .iload 4, 2), (98, .i2l, 1), (99, .lconst 1, 1), (100, .invokevirtual 223, 3), (103, .pop, 1), (104, .aload_n 0, 1), (105, .iload_n 3, 1), (106, .iconst 1, 1), (107, .invokevirtual 119, 3), (110, .ireturn, 1)])
set_option maxRecDepth 20000 in
theorem tX8_sail : ∀ q ∈ mX8_sail.2, decode mX8_sail.1.2.2.1 q.1 = .ok q.2 := kd_tab cX8_sail mX8_sail.2 (by decide +kernel)
def mX8_dry : kw_M := ((RX8, yX8_dry, cX8_dry, 7, (some .int)), [(0, .aload_n 0, 1), (1, .iload_n 1, 1), (2, .invokevirtual 252, 3), (5, .istore_n 2, 1), (6, .iload_n 2, 1), (7, .ifCond .ge 5, 3), (10, .iload_n 2, 1), (11, .ireturn, 1), (12, .iconst 0, 1), (13, .istore_n 3, 1), (14, .iconst 0, 1), (15, .istore 4, 2), (17, .iload 4, 2), (19, .aload_n 0, 1), (20, .getfield 163, 3), (23, .if_icmp .ge 93, 3), (26, .aload_n 0, 1), (27, .getfield 57, 3), (30, .iload 4, 2), (32, .iaload, 1), (33, .istore 5, 2), (35, .iconst 0, 1), (36, .istore 6, 2), (38, .iload 6, 2), (40, .aload_n 0, 1), (41, .getfield 17, 3), (44, .iload_n 1, 1), (45, .iaload, 1), (46, .if_icmp .ge 48, 3), (49, .aload_n 0, 1), (50, .iload_n 1, 1), (51, .iload 6, 2), (53, .invokevirtual 115, 3), (56, .iload 4, 2), (58, .invokestatic 185, 3), (61, .ifCond .eq 23, 3), (64, .aload_n 0, 1), (65, .iload 5, 2), (67, .aload_n 0, 1), (68, .aload_n 0, 1), (69, .getfield 166, 3), (72, .iload 6, 2), (74, .iadd, 1), (75, .invokevirtual 196, 3), (78, .invokevirtual 205, 3), (81, .goto 5, 3), (84, .iload 5, 2), (86, .istore 5, 2), (88, .iinc 6 1, 3), (91, .goto (-53), 3), (94, .iload_n 3, 1), (95, .iload 5, 2), (97, .ifCond .ne 10, 3), (100, .iconst 1, 1), (101, .iload 4, 2), (103, .ishl, 1), (104, .goto 4, 3), (107, .iconst 0, 1), (108, .ior, 1), (109, .istore_n 3, 1), (110, .iinc 4 1, 3), (113, .goto (-96), 3), (116, .iload_n 3, 1), (117, .ireturn, 1)])
set_option maxRecDepth 20000 in
theorem tX8_dry : ∀ q ∈ mX8_dry.2, decode mX8_dry.1.2.2.1 q.1 = .ok q.2 := kd_tab cX8_dry mX8_dry.2 (by decide +kernel)
def mX8_setHours : kw_M := ((RX8, yX8_setHours, cX8_setHours, 3, none), [(0, .iconst 0, 1), (1, .istore_n 1, 1), (2, .iload_n 1, 1), (3, .iconst 3, 1), (4, .if_icmp .ge 79, 3), (7, .iconst 0, 1), (8, .istore_n 2, 1), (9, .iload_n 2, 1), (10, .iconst 1, 1), (11, .aload_n 0, 1), (12, .getfield 163, 3), (15, .ishl, 1), (16, .if_icmp .ge 61, 3), (19, .aload_n 0, 1), (20, .getfield 69, 3), (23, .bipush 64, 2), (25, .iload_n 1, 1), (26, .imul, 1), (27, .iload_n 2, 1), (28, .iadd, 1), (29, .aload_n 0, 1), (30, .iload_n 2, 1), (31, .aload_n 0, 1), (32, .aload_n 0, 1), (33, .getfield 166, 3), (36, .iload_n 1, 1), (37, .iadd, 1), (38, .invokevirtual 196, 3), (41, .invokevirtual 199, 3), (44, .iastore, 1), (45, .aload_n 0, 1), (46, .getfield 72, 3), (49, .bipush 64, 2), (51, .iload_n 1, 1), (52, .imul, 1), (53, .iload_n 2, 1), (54, .iadd, 1), (55, .aload_n 0, 1), (56, .iload_n 2, 1), (57, .aload_n 0, 1), (58, .aload_n 0, 1), (59, .getfield 166, 3), (62, .iload_n 1, 1), (63, .iadd, 1), (64, .invokevirtual 196, 3), (67, .invokevirtual 202, 3), (70, .iastore, 1), (71, .iinc 2 1, 3), (74, .goto (-65), 3), (77, .iinc 1 1, 3), (80, .goto (-78), 3), (83, .return_, 1)])
set_option maxRecDepth 20000 in
theorem tX8_setHours : ∀ q ∈ mX8_setHours.2, decode mX8_setHours.1.2.2.1 q.1 = .ok q.2 := kd_tab cX8_setHours mX8_setHours.2 (by decide +kernel)
def mX8_isTurn : kw_M := ((RX8, yX8_isTurn, cX8_isTurn, 2, (some .boolean)), [(0, .iload_n 0, 1), (1, .iload_n 1, 1), (2, .ineg, 1), (3, .if_icmp .lt 12, 3), (6, .iload_n 0, 1), (7, .iload_n 1, 1), (8, .if_icmp .gt 7, 3), (11, .iconst 1, 1), (12, .goto 4, 3), (15, .iconst 0, 1), (16, .ireturn, 1)])
set_option maxRecDepth 20000 in
theorem tX8_isTurn : ∀ q ∈ mX8_isTurn.2, decode mX8_isTurn.1.2.2.1 q.1 = .ok q.2 := kd_tab cX8_isTurn mX8_isTurn.2 (by decide +kernel)
def mX8_farBy : kw_M := ((RX8, yX8_farBy, cX8_farBy, 16, (some .int)), [(0, .iconst 1, 1), (1, .aload_n 0, 1), (2, .getfield 163, 3), (5, .ishl, 1), (6, .istore_n 3, 1), (7, .ldc 255, 2), (9, .istore 4, 2), (11, .iconst 0, 1), (12, .istore 5, 2), (14, .iload 5, 2), (16, .iload_n 1, 1), (17, .ifCond .le 7, 3), (20, .iload_n 3, 1), (21, .goto 4, 3), (24, .iconst 1, 1), (25, .if_icmp .ge 299, 3), (28, .aload_n 0, 1), (29, .getfield 172, 3), (32, .iload_n 1, 1), (33, .ifCond .le 13, 3), (36, .aload_n 0, 1), (37, .getfield 72, 3), (40, .iload 5, 2), (42, .iaload, 1), (43, .goto 4, 3), (46, .iconst 0, 1), (47, .iadd, 1), (48, .istore 6, 2), (50, .aload_n 0, 1), (51, .getfield 169, 3), (54, .iload_n 1, 1), (55, .ifCond .le 13, 3), (58, .aload_n 0, 1), (59, .getfield 69, 3), (62, .iload 5, 2), (64, .iaload, 1), (65, .goto 4, 3), (68, .iconst 0, 1), (69, .iadd, 1), (70, .istore 7, 2), (72, .iload_n 1, 1), (73, .ifCond .eq 12, 3), (76, .iload 6, 2), (78, .iload_n 2, 1), (79, .invokestatic 256, 3), (82, .ifCond .eq 7, 3), (85, .iconst 1, 1), (86, .goto 4, 3), (89, .iconst 0, 1), (90, .istore 8, 2), (92, .iconst 0, 1), (93, .istore 9, 2), (95, .iload 8, 2), (97, .ifCond .eq 221, 3), (100, .iload 9, 2), (102, .iload_n 1, 1), (103, .iconst 1, 1), (104, .if_icmp .le 7, 3), (107, .iload_n 3, 1), (108, .goto 4, 3), (111, .iconst 1, 1), (112, .if_icmp .ge 206, 3), (115, .iload 6, 2), (117, .iload_n 1, 1), (118, .iconst 1, 1), (119, .if_icmp .le 16, 3), (122, .aload_n 0, 1), (123, .getfield 72, 3), (126, .bipush 64, 2), (128, .iload 9, 2), (130, .iadd, 1), (131, .iaload, 1), (132, .goto 4, 3), (135, .iconst 0, 1), (136, .iadd, 1), (137, .istore 10, 2), (139, .iload 7, 2), (141, .iload_n 1, 1), (142, .iconst 1, 1), (143, .if_icmp .le 16, 3), (146, .aload_n 0, 1), (147, .getfield 69, 3), (150, .bipush 64, 2), (152, .iload 9, 2), (154, .iadd, 1), (155, .iaload, 1), (156, .goto 4, 3), (159, .iconst 0, 1), (160, .iadd, 1), (161, .istore 11, 2), (163, .iload_n 1, 1), (164, .iconst 2, 1), (165, .if_icmp .lt 12, 3), (168, .iload 10, 2), (170, .iload_n 2, 1), (171, .invokestatic 256, 3), (174, .ifCond .eq 7, 3), (177, .iconst 1, 1), (178, .goto 4, 3), (181, .iconst 0, 1), (182, .istore 12, 2), (184, .iconst 0, 1), (185, .istore 13, 2), (187, .iload 12, 2), (189, .ifCond .eq 123, 3), (192, .iload 13, 2), (194, .iload_n 1, 1), (195, .iconst 2, 1), (196, .if_icmp .le 7, 3), (199, .iload_n 3, 1), (200, .goto 4, 3), (203, .iconst 1, 1), (204, .if_icmp .ge 108, 3), (207, .iload 10, 2), (209, .iload_n 1, 1), (210, .iconst 2, 1), (211, .if_icmp .le 17, 3), (214, .aload_n 0, 1), (215, .getfield 72, 3), (218, .sipush 128, 3), (221, .iload 13, 2), (223, .iadd, 1), (224, .iaload, 1), (225, .goto 4, 3), (228, .iconst 0, 1), (229, .iadd, 1), (230, .istore 14, 2), (232, .iload 11, 2), (234, .iload_n 1, 1), (235, .iconst 2, 1), (236, .if_icmp .le 17, 3), (239, .aload_n 0, 1), (240, .getfield 69, 3), (243, .sipush 128, 3), (246, .iload 13, 2), (248, .iadd, 1), (249, .iaload, 1), (250, .goto 4, 3), (253, .iconst 0, 1), (254, .iadd, 1), (255, .istore 15, 2), (257, .iload_n 1, 1), (258, .iconst 3, 1), (259, .if_icmp .lt 12, 3), (262, .iload 14, 2), (264, .iload_n 2, 1), (265, .invokestatic 256, 3), (268, .ifCond .eq 38, 3), (271, .iload 15, 2), (273, .iload 4, 2), (275, .if_icmp .le 31, 3), (278, .iload 15, 2), (280, .istore 4, 2), (282, .aload_n 0, 1), (283, .getfield 75, 3), (286, .iconst 0, 1), (287, .iload 5, 2), (289, .iastore, 1), (290, .aload_n 0, 1), (291, .getfield 75, 3), (294, .iconst 1, 1), (295, .iload 9, 2), (297, .iastore, 1), (298, .aload_n 0, 1), (299, .getfield 75, 3), (302, .iconst 2, 1), (303, .iload 13, 2), (305, .iastore, 1), (306, .iinc 13 1, 3), (309, .goto (-122), 3), (312, .iinc 9 1, 3), (315, .goto (-220), 3), (318, .iinc 5 1, 3), (321, .goto (-307), 3), (324, .iload 4, 2), (326, .ireturn, 1)])
set_option maxRecDepth 20000 in
theorem tX8_farBy : ∀ q ∈ mX8_farBy.2, decode mX8_farBy.1.2.2.1 q.1 = .ok q.2 := kd_tab cX8_farBy mX8_farBy.2 (by decide +kernel)
def mX8_far : kw_M := ((RX8, yX8_far, cX8_far, 6, (some .int)), [(0, .iload_n 1, 1), (1, .iconst 0, 1), (2, .iconst 3, 1), (3, .invokestatic 93, 3), (6, .ifCond .eq 21, 3), (9, .iload_n 2, 1), (10, .iconst 0, 1), (11, .sipush 999, 3), (14, .invokestatic 93, 3), (17, .ifCond .eq 10, 3), (20, .iload_n 3, 1), (21, .invokestatic 97, 3), (24, .ifCond .ne 5, 3), (27, .iconst (-1), 1), (28, .ireturn, 1), (29, .aload_n 0, 1), (30, .getfield 163, 3), (33, .ifCond .ne 6, 3), (36, .bipush (-4), 2), (38, .ireturn, 1), (39, .aload_n 0, 1), (40, .invokevirtual 259, 3), (43, .aload_n 0, 1), (44, .iload_n 1, 1), (45, .iload_n 2, 1), (46, .invokevirtual 262, 3), (49, .istore 4, 2), (51, .iload 4, 2), (53, .ldc 255, 2), (55, .if_icmp .ne 6, 3), (58, .bipush (-9), 2), (60, .ireturn, 1), (61, .aload_n 0, 1), (62, .getfield 17, 3), (65, .iload_n 3, 1), (66, .iload_n 1, 1), (67, .iastore, 1), (68, .iconst 0, 1), (69, .istore 5, 2), (71, .iload 5, 2), (73, .bipush 40, 2), (75, .if_icmp .ge 33, 3), (78, .aload_n 0, 1), (79, .iload_n 3, 1), (80, .iload 5, 2), (82, .iload 5, 2), (84, .iload_n 1, 1), (85, .if_icmp .ge 13, 3), (88, .aload_n 0, 1), (89, .getfield 75, 3), (92, .iload 5, 2), (94, .iaload, 1), (95, .goto 4, 3), (98, .iconst 0, 1), (99, .invokevirtual 108, 3), (102, .iinc 5 1, 3), (105, .goto (-34), 3), (108, .aload_n 0, 1), (109, .iload 4, 2), (111, .iconst 1, 1), (112, .invokevirtual 119, 3), (115, .ireturn, 1)])
set_option maxRecDepth 20000 in
theorem tX8_far : ∀ q ∈ mX8_far.2, decode mX8_far.1.2.2.1 q.1 = .ok q.2 := kd_tab cX8_far mX8_far.2 (by decide +kernel)
def mX8_mostOf : kw_M := ((RX8, yX8_mostOf, cX8_mostOf, 5, (some .int)), [(0, .iconst 0, 1), (1, .istore_n 3, 1), (2, .iload_n 2, 1), (3, .istore 4, 2), (5, .iload 4, 2), (7, .ifCond .le 31, 3), (10, .iload_n 3, 1), (11, .aload_n 0, 1), (12, .getfield 69, 3), (15, .bipush 64, 2), (17, .iload_n 1, 1), (18, .imul, 1), (19, .iload 4, 2), (21, .iadd, 1), (22, .iaload, 1), (23, .invokestatic 265, 3), (26, .istore_n 3, 1), (27, .iload 4, 2), (29, .iconst 1, 1), (30, .isub, 1), (31, .iload_n 2, 1), (32, .iand, 1), (33, .istore 4, 2), (35, .goto (-30), 3), (38, .iload_n 3, 1), (39, .ireturn, 1)])
set_option maxRecDepth 20000 in
theorem tX8_mostOf : ∀ q ∈ mX8_mostOf.2, decode mX8_mostOf.1.2.2.1 q.1 = .ok q.2 := kd_tab cX8_mostOf mX8_mostOf.2 (by decide +kernel)
def mX8_soon : kw_M := ((RX8, yX8_soon, cX8_soon, 4, (some .int)), [(0, .iload_n 1, 1), (1, .sipush (-999), 3), (4, .sipush 999, 3), (7, .invokestatic 93, 3), (10, .ifCond .ne 5, 3), (13, .iconst (-1), 1), (14, .ireturn, 1), (15, .aload_n 0, 1), (16, .getfield 163, 3), (19, .ifCond .ne 6, 3), (22, .bipush (-4), 2), (24, .ireturn, 1), (25, .aload_n 0, 1), (26, .invokevirtual 259, 3), (29, .aload_n 0, 1), (30, .getfield 169, 3), (33, .istore_n 2, 1), (34, .iconst 0, 1), (35, .istore_n 3, 1), (36, .iload_n 3, 1), (37, .iconst 3, 1), (38, .if_icmp .ge 30, 3), (41, .iload_n 2, 1), (42, .iload_n 1, 1), (43, .if_icmp .ge 25, 3), (46, .iload_n 2, 1), (47, .aload_n 0, 1), (48, .iload_n 3, 1), (49, .iconst 1, 1), (50, .aload_n 0, 1), (51, .getfield 163, 3), (54, .ishl, 1), (55, .iconst 1, 1), (56, .isub, 1), (57, .invokevirtual 268, 3), (60, .iadd, 1), (61, .istore_n 2, 1), (62, .iinc 3 1, 3), (65, .goto (-29), 3), (68, .iload_n 2, 1), (69, .iload_n 1, 1), (70, .if_icmp .ge 8, 3), (73, .bipush (-9), 2), (75, .goto 4, 3), (78, .iload_n 3, 1), (79, .ireturn, 1)])
set_option maxRecDepth 20000 in
theorem tX8_soon : ∀ q ∈ mX8_soon.2, decode mX8_soon.1.2.2.1 q.1 = .ok q.2 := kd_tab cX8_soon mX8_soon.2 (by decide +kernel)
def mX8_least : kw_M := ((RX8, yX8_least, cX8_least, 7, (some .int)), [(0, .iload_n 1, 1), (1, .iconst 0, 1), (2, .iconst 3, 1), (3, .invokestatic 93, 3), (6, .ifCond .eq 16, 3), (9, .iload_n 2, 1), (10, .sipush (-999), 3), (13, .sipush 999, 3), (16, .invokestatic 93, 3), (19, .ifCond .ne 5, 3), (22, .iconst (-1), 1), (23, .ireturn, 1), (24, .aload_n 0, 1), (25, .getfield 163, 3), (28, .ifCond .ne 6, 3), (31, .bipush (-4), 2), (33, .ireturn, 1), (34, .aload_n 0, 1), (35, .invokevirtual 259, 3), (38, .bipush (-9), 2), (40, .istore_n 3, 1), (41, .iconst 0, 1), (42, .istore 4, 2), (44, .iload 4, 2), (46, .iconst 1, 1), (47, .aload_n 0, 1), (48, .getfield 163, 3), (51, .ishl, 1), (52, .if_icmp .ge 88, 3), (55, .aload_n 0, 1), (56, .getfield 169, 3), (59, .istore 5, 2), (61, .iconst 0, 1), (62, .istore 6, 2), (64, .iload 6, 2), (66, .iload_n 1, 1), (67, .if_icmp .ge 22, 3), (70, .iload 5, 2), (72, .aload_n 0, 1), (73, .iload 6, 2), (75, .iload 4, 2), (77, .invokevirtual 268, 3), (80, .iadd, 1), (81, .istore 5, 2), (83, .iinc 6 1, 3), (86, .goto (-22), 3), (89, .iload_n 3, 1), (90, .bipush (-9), 2), (92, .if_icmp .eq 13, 3), (95, .aload_n 0, 1), (96, .iload 4, 2), (98, .invokevirtual 246, 3), (101, .iload_n 3, 1), (102, .if_icmp .ge 7, 3), (105, .iconst 1, 1), (106, .goto 4, 3), (109, .iconst 0, 1), (110, .istore 6, 2), (112, .iload 5, 2), (114, .iload_n 2, 1), (115, .if_icmp .lt 17, 3), (118, .iload 6, 2), (120, .ifCond .eq 12, 3), (123, .aload_n 0, 1), (124, .iload 4, 2), (126, .invokevirtual 246, 3), (129, .goto 4, 3), (132, .iload_n 3, 1), (133, .istore_n 3, 1), (134, .iinc 4 1, 3), (137, .goto (-93), 3), (140, .iload_n 3, 1), (141, .ireturn, 1)])
set_option maxRecDepth 20000 in
theorem tX8_least : ∀ q ∈ mX8_least.2, decode mX8_least.1.2.2.1 q.1 = .ok q.2 := kd_tab cX8_least mX8_least.2 (by decide +kernel)
def mX8_ways : kw_M := ((RX8, yX8_ways, cX8_ways, 7, (some .int)), [(0, .iload_n 1, 1), (1, .bipush (-99), 2), (3, .bipush 99, 2), (5, .invokestatic 93, 3), (8, .ifCond .eq 16, 3), (11, .iload_n 2, 1), (12, .sipush (-999), 3), (15, .sipush 999, 3), (18, .invokestatic 93, 3), (21, .ifCond .ne 5, 3), (24, .iconst (-1), 1), (25, .ireturn, 1), (26, .aload_n 0, 1), (27, .getfield 163, 3), (30, .ifCond .ne 6, 3), (33, .bipush (-4), 2), (35, .ireturn, 1), (36, .aload_n 0, 1), (37, .aload_n 0, 1), (38, .getfield 166, 3), (41, .invokevirtual 196, 3), (44, .istore_n 3, 1), (45, .iconst 0, 1), (46, .istore 4, 2), (48, .iconst 1, 1), (49, .aload_n 0, 1), (50, .getfield 163, 3), (53, .ishl, 1), (54, .iconst 1, 1), (55, .isub, 1), (56, .istore 5, 2), (58, .iconst 0, 1), (59, .istore 6, 2), (61, .iload 6, 2), (63, .iconst 1, 1), (64, .aload_n 0, 1), (65, .getfield 163, 3), (68, .ishl, 1), (69, .if_icmp .ge 41, 3), (72, .aload_n 0, 1), (73, .iload 6, 2), (75, .iload_n 3, 1), (76, .invokevirtual 199, 3), (79, .iload_n 1, 1), (80, .if_icmp .ne 24, 3), (83, .aload_n 0, 1), (84, .iload 6, 2), (86, .iload_n 3, 1), (87, .invokevirtual 202, 3), (90, .iload_n 2, 1), (91, .if_icmp .ne 13, 3), (94, .iinc 4 1, 3), (97, .iload 5, 2), (99, .iload 6, 2), (101, .iand, 1), (102, .istore 5, 2), (104, .iinc 6 1, 3), (107, .goto (-46), 3), (110, .aload_n 0, 1), (111, .iload 4, 2), (113, .i2l, 1), (114, .lconst 1, 1), (115, .invokevirtual 223, 3), (118, .pop, 1), (119, .aload_n 0, 1), (120, .iload 4, 2), (122, .ifCond .ne 7, 3), (125, .iconst 0, 1), (126, .goto 5, 3), (129, .iload 5, 2), (131, .iconst 1, 1), (132, .invokevirtual 119, 3), (135, .ireturn, 1)])
set_option maxRecDepth 20000 in
theorem tX8_ways : ∀ q ∈ mX8_ways.2, decode mX8_ways.1.2.2.1 q.1 = .ok q.2 := kd_tab cX8_ways mX8_ways.2 (by decide +kernel)
def mX8_askedPulls : kw_M := ((RX8, yX8_askedPulls, cX8_askedPulls, 5, (some .int)), [(0, .aload_n 0, 1), (1, .iload_n 1, 1), (2, .invokevirtual 211, 3), (5, .ifCond .ne 7, 3), (8, .iconst (-1), 1), (9, .goto 8, 3), (12, .aload_n 0, 1), (13, .iload_n 2, 1), (14, .invokevirtual 112, 3), (17, .istore_n 3, 1), (18, .iload_n 3, 1), (19, .ifCond .ge 5, 3), (22, .iload_n 3, 1), (23, .ireturn, 1), (24, .aload_n 0, 1), (25, .getfield 17, 3), (28, .iload_n 2, 1), (29, .iaload, 1), (30, .iconst 2, 1), (31, .irem, 1), (32, .ifCond .ne 14, 3), (35, .aload_n 0, 1), (36, .getfield 17, 3), (39, .iload_n 2, 1), (40, .iaload, 1), (41, .bipush 20, 2), (43, .if_icmp .le 9, 3), (46, .aload_n 0, 1), (47, .iconst 5, 1), (48, .invokevirtual 101, 3), (51, .ireturn, 1), (52, .iconst 0, 1), (53, .istore 4, 2), (55, .iload 4, 2), (57, .aload_n 0, 1), (58, .getfield 17, 3), (61, .iload_n 2, 1), (62, .iaload, 1), (63, .if_icmp .ge 31, 3), (66, .aload_n 0, 1), (67, .iload_n 2, 1), (68, .iload 4, 2), (70, .invokevirtual 115, 3), (73, .iconst 0, 1), (74, .bipush 6, 2), (76, .invokestatic 93, 3), (79, .ifCond .ne 9, 3), (82, .aload_n 0, 1), (83, .iconst 3, 1), (84, .invokevirtual 101, 3), (87, .ireturn, 1), (88, .iinc 4 2, 3), (91, .goto (-36), 3), (94, .iconst 0, 1), (95, .ireturn, 1)])
set_option maxRecDepth 20000 in
theorem tX8_askedPulls : ∀ q ∈ mX8_askedPulls.2, decode mX8_askedPulls.1.2.2.1 q.1 = .ok q.2 := kd_tab cX8_askedPulls mX8_askedPulls.2 (by decide +kernel)
def mX8_pullsSo : kw_M := ((RX8, yX8_pullsSo, cX8_pullsSo, 6, (some .boolean)), [(0, .iconst 1, 1), (1, .istore 4, 2), (3, .iconst 0, 1), (4, .istore 5, 2), (6, .iload 5, 2), (8, .aload_n 0, 1), (9, .getfield 17, 3), (12, .iload_n 3, 1), (13, .iaload, 1), (14, .if_icmp .ge 45, 3), (17, .iload 4, 2), (19, .ifCond .eq 31, 3), (22, .iload_n 1, 1), (23, .iload_n 2, 1), (24, .aload_n 0, 1), (25, .iload_n 3, 1), (26, .iload 5, 2), (28, .invokevirtual 115, 3), (31, .invokestatic 181, 3), (34, .aload_n 0, 1), (35, .iload_n 3, 1), (36, .iload 5, 2), (38, .iconst 1, 1), (39, .iadd, 1), (40, .invokevirtual 115, 3), (43, .if_icmp .ne 7, 3), (46, .iconst 1, 1), (47, .goto 4, 3), (50, .iconst 0, 1), (51, .istore 4, 2), (53, .iinc 5 2, 3), (56, .goto (-50), 3), (59, .iload 4, 2), (61, .ireturn, 1)])
set_option maxRecDepth 20000 in
theorem tX8_pullsSo : ∀ q ∈ mX8_pullsSo.2, decode mX8_pullsSo.1.2.2.1 q.1 = .ok q.2 := kd_tab cX8_pullsSo mX8_pullsSo.2 (by decide +kernel)
def mX8_kinds : kw_M := ((RX8, yX8_kinds, cX8_kinds, 6, (some .int)), [(0, .aload_n 0, 1), (1, .iload_n 1, 1), (2, .iload_n 2, 1), (3, .invokevirtual 271, 3), (6, .istore_n 3, 1), (7, .iload_n 3, 1), (8, .ifCond .ge 5, 3), (11, .iload_n 3, 1), (12, .ireturn, 1), (13, .iconst 0, 1), (14, .istore 4, 2), (16, .iconst 0, 1), (17, .istore 5, 2), (19, .iload 5, 2), (21, .iconst 5, 1), (22, .if_icmp .gt 38, 3), (25, .iload 4, 2), (27, .aload_n 0, 1), (28, .iload 5, 2), (30, .aload_n 0, 1), (31, .getfield 45, 3), (34, .iload_n 1, 1), (35, .iaload, 1), (36, .iload_n 2, 1), (37, .invokevirtual 274, 3), (40, .ifCond .eq 10, 3), (43, .iconst 1, 1), (44, .iload 5, 2), (46, .ishl, 1), (47, .goto 4, 3), (50, .iconst 0, 1), (51, .ior, 1), (52, .istore 4, 2), (54, .iinc 5 1, 3), (57, .goto (-38), 3), (60, .iload 4, 2), (62, .ireturn, 1)])
set_option maxRecDepth 20000 in
theorem tX8_kinds : ∀ q ∈ mX8_kinds.2, decode mX8_kinds.1.2.2.1 q.1 = .ok q.2 := kd_tab cX8_kinds mX8_kinds.2 (by decide +kernel)
def mX8_areas : kw_M := ((RX8, yX8_areas, cX8_areas, 6, (some .int)), [(0, .aload_n 0, 1), (1, .iload_n 1, 1), (2, .iload_n 2, 1), (3, .invokevirtual 271, 3), (6, .istore_n 3, 1), (7, .iload_n 3, 1), (8, .ifCond .ge 5, 3), (11, .iload_n 3, 1), (12, .ireturn, 1), (13, .iconst 0, 1), (14, .istore 4, 2), (16, .iconst 1, 1), (17, .istore 5, 2), (19, .iload 5, 2), (21, .bipush 9, 2), (23, .if_icmp .gt 38, 3), (26, .iload 4, 2), (28, .aload_n 0, 1), (29, .aload_n 0, 1), (30, .getfield 39, 3), (33, .iload_n 1, 1), (34, .iaload, 1), (35, .iload 5, 2), (37, .iload_n 2, 1), (38, .invokevirtual 274, 3), (41, .ifCond .eq 10, 3), (44, .iconst 1, 1), (45, .iload 5, 2), (47, .ishl, 1), (48, .goto 4, 3), (51, .iconst 0, 1), (52, .ior, 1), (53, .istore 4, 2), (55, .iinc 5 1, 3), (58, .goto (-39), 3), (61, .iload 4, 2), (63, .ireturn, 1)])
set_option maxRecDepth 20000 in
theorem tX8_areas : ∀ q ∈ mX8_areas.2, decode mX8_areas.1.2.2.1 q.1 = .ok q.2 := kd_tab cX8_areas mX8_areas.2 (by decide +kernel)
def mX8_rival : kw_M := ((RX8, yX8_rival, cX8_rival, 9, (some .int)), [(0, .iload_n 1, 1), (1, .iconst 0, 1), (2, .iconst 2, 1), (3, .invokestatic 93, 3), (6, .ifCond .ne 5, 3), (9, .iconst (-1), 1), (10, .ireturn, 1), (11, .aload_n 0, 1), (12, .getfield 163, 3), (15, .ifCond .ne 6, 3), (18, .bipush (-4), 2), (20, .ireturn, 1), (21, .aload_n 0, 1), (22, .aload_n 0, 1), (23, .getfield 166, 3), (26, .invokevirtual 196, 3), (29, .istore_n 2, 1), (30, .iconst 0, 1), (31, .istore_n 3, 1), (32, .iload_n 3, 1), (33, .iconst 1, 1), (34, .aload_n 0, 1), (35, .getfield 163, 3), (38, .ishl, 1), (39, .if_icmp .ge 21, 3), (42, .aload_n 0, 1), (43, .getfield 78, 3), (46, .iload_n 3, 1), (47, .aload_n 0, 1), (48, .iload_n 3, 1), (49, .iload_n 2, 1), (50, .invokevirtual 199, 3), (53, .iastore, 1), (54, .iinc 3 1, 3), (57, .goto (-25), 3), (60, .iconst 2, 1), (61, .iload_n 1, 1), (62, .imul, 1), (63, .iconst 1, 1), (64, .isub, 1), (65, .istore_n 3, 1), (66, .iload_n 3, 1), (67, .ifCond .lt 169, 3), (70, .iload_n 3, 1), (71, .iconst 2, 1), (72, .irem, 1), (73, .ifCond .ne 7, 3), (76, .iconst 1, 1), (77, .goto 4, 3), (80, .iconst 0, 1), (81, .istore 4, 2), (83, .iconst 0, 1), (84, .istore 5, 2), (86, .iload 5, 2), (88, .iconst 1, 1), (89, .aload_n 0, 1), (90, .getfield 163, 3), (93, .ishl, 1), (94, .if_icmp .ge 102, 3), (97, .aload_n 0, 1), (98, .getfield 78, 3), (101, .iload 5, 2), (103, .iaload, 1), (104, .istore 6, 2), (106, .iconst 0, 1), (107, .istore 7, 2), (109, .iload 7, 2), (111, .aload_n 0, 1), (112, .getfield 163, 3), (115, .if_icmp .ge 66, 3), (118, .iload 5, 2), (120, .iload 7, 2), (122, .invokestatic 185, 3), (125, .iload 4, 2), (127, .if_icmp .eq 48, 3), (130, .aload_n 0, 1), (131, .getfield 78, 3), (134, .iload 5, 2), (136, .iconst 1, 1), (137, .iload 7, 2), (139, .ishl, 1), (140, .ixor, 1), (141, .iaload, 1), (142, .istore 8, 2), (144, .iload 4, 2), (146, .ifCond .eq 13, 3), (149, .iload 6, 2), (151, .iload 8, 2), (153, .invokestatic 265, 3), (156, .goto 17, 3), (159, .iload 8, 2), (161, .iload 6, 2), (163, .if_icmp .ge 8, 3), (166, .iload 8, 2), (168, .goto 5, 3), (171, .iload 6, 2), (173, .istore 6, 2), (175, .iinc 7 1, 3), (178, .goto (-69), 3), (181, .aload_n 0, 1), (182, .getfield 81, 3), (185, .iload 5, 2), (187, .iload 6, 2), (189, .iastore, 1), (190, .iinc 5 1, 3), (193, .goto (-107), 3), (196, .iconst 0, 1), (197, .istore 5, 2), (199, .iload 5, 2), (201, .iconst 1, 1), (202, .aload_n 0, 1), (203, .getfield 163, 3), (206, .ishl, 1), (207, .if_icmp .ge 23, 3), (210, .aload_n 0, 1), (211, .getfield 78, 3), (214, .iload 5, 2), (216, .aload_n 0, 1), (217, .getfield 81, 3), (220, .iload 5, 2), (222, .iaload, 1), (223, .iastore, 1), (224, .iinc 5 1, 3), (227, .goto (-28), 3), (230, .iinc 3 (-1), 3), (233, .goto (-167), 3), (236, .aload_n 0, 1), (237, .aload_n 0, 1), (238, .getfield 78, 3), (241, .aload_n 0, 1), (242, .getfield 175, 3), (245, .iaload, 1), (246, .iconst 1, 1), (247, .invokevirtual 119, 3), (250, .ireturn, 1)])
set_option maxRecDepth 20000 in
theorem tX8_rival : ∀ q ∈ mX8_rival.2, decode mX8_rival.1.2.2.1 q.1 = .ok q.2 := kd_tab cX8_rival mX8_rival.2 (by decide +kernel)
def mX8_power : kw_M := ((RX8, yX8_power, cX8_power, 6, (some .long)), [(0, .lconst 1, 1), (1, .lstore_n 3, 1), (2, .iconst 0, 1), (3, .istore 5, 2), (5, .iload 5, 2), (7, .iload_n 2, 1), (8, .if_icmp .ge 13, 3), (11, .lload_n 3, 1), (12, .lload_n 0, 1), (13, .lmul, 1), (14, .lstore_n 3, 1), (15, .iinc 5 1, 3), (18, .goto (-13), 3), (21, .lload_n 3, 1), (22, .lreturn, 1)])
set_option maxRecDepth 20000 in
theorem tX8_power : ∀ q ∈ mX8_power.2, decode mX8_power.1.2.2.1 q.1 = .ok q.2 := kd_tab cX8_power mX8_power.2 (by decide +kernel)
def mX8_gustMiles : kw_M := ((RX8, yX8_gustMiles, cX8_gustMiles, 5, (some .int)), [(0, .aload_n 0, 1), (1, .getfield 169, 3), (4, .istore_n 3, 1), (5, .iconst 0, 1), (6, .istore 4, 2), (8, .iload 4, 2), (10, .aload_n 0, 1), (11, .getfield 17, 3), (14, .iload_n 1, 1), (15, .iaload, 1), (16, .if_icmp .ge 41, 3), (19, .iload_n 3, 1), (20, .aload_n 0, 1), (21, .aload_n 0, 1), (22, .iload_n 1, 1), (23, .iload 4, 2), (25, .invokevirtual 115, 3), (28, .aload_n 0, 1), (29, .aload_n 0, 1), (30, .getfield 166, 3), (33, .iload 4, 2), (35, .iadd, 1), (36, .invokevirtual 196, 3), (39, .iload_n 2, 1), (40, .iload 4, 2), (42, .ishr, 1), (43, .iconst 1, 1), (44, .iand, 1), (45, .iadd, 1), (46, .invokevirtual 199, 3), (49, .iadd, 1), (50, .istore_n 3, 1), (51, .iinc 4 1, 3), (54, .goto (-46), 3), (57, .iload_n 3, 1), (58, .ireturn, 1)])
set_option maxRecDepth 20000 in
theorem tX8_gustMiles : ∀ q ∈ mX8_gustMiles.2, decode mX8_gustMiles.1.2.2.1 q.1 = .ok q.2 := kd_tab cX8_gustMiles mX8_gustMiles.2 (by decide +kernel)
def mX8_weightOf : kw_M := ((RX8, yX8_weightOf, cX8_weightOf, 4, (some .long)), [(0, .iload_n 3, 1), (1, .i2l, 1), (2, .iload_n 1, 1), (3, .invokestatic 217, 3), (6, .invokestatic 277, 3), (9, .bipush 12, 2), (11, .iload_n 3, 1), (12, .isub, 1), (13, .i2l, 1), (14, .iload_n 2, 1), (15, .iload_n 1, 1), (16, .invokestatic 217, 3), (19, .isub, 1), (20, .invokestatic 277, 3), (23, .lmul, 1), (24, .lreturn, 1)])
set_option maxRecDepth 20000 in
theorem tX8_weightOf : ∀ q ∈ mX8_weightOf.2, decode mX8_weightOf.1.2.2.1 q.1 = .ok q.2 := kd_tab cX8_weightOf mX8_weightOf.2 (by decide +kernel)
def mX8_mid : kw_M := ((RX8, yX8_mid, cX8_mid, 8, (some .int)), [(0, .iload_n 2, 1), (1, .iconst 0, 1), (2, .bipush 12, 2), (4, .invokestatic 93, 3), (7, .ifCond .ne 7, 3), (10, .iconst (-1), 1), (11, .goto 8, 3), (14, .aload_n 0, 1), (15, .iload_n 1, 1), (16, .invokevirtual 252, 3), (19, .istore_n 3, 1), (20, .iload_n 3, 1), (21, .ifCond .ge 5, 3), (24, .iload_n 3, 1), (25, .ireturn, 1), (26, .aload_n 0, 1), (27, .getfield 17, 3), (30, .iload_n 1, 1), (31, .iaload, 1), (32, .istore 4, 2), (34, .lconst 0, 1), (35, .lstore 5, 2), (37, .iconst 0, 1), (38, .istore 7, 2), (40, .iload 7, 2), (42, .iconst 1, 1), (43, .iload 4, 2), (45, .ishl, 1), (46, .if_icmp .ge 32, 3), (49, .lload 5, 2), (51, .aload_n 0, 1), (52, .iload_n 1, 1), (53, .iload 7, 2), (55, .invokevirtual 281, 3), (58, .i2l, 1), (59, .aload_n 0, 1), (60, .iload 7, 2), (62, .iload 4, 2), (64, .iload_n 2, 1), (65, .invokevirtual 284, 3), (68, .lmul, 1), (69, .ladd, 1), (70, .lstore 5, 2), (72, .iinc 7 1, 3), (75, .goto (-35), 3), (78, .aload_n 0, 1), (79, .lload 5, 2), (81, .ldc2_w 288, 3), (84, .iload 4, 2), (86, .invokestatic 277, 3), (89, .invokevirtual 223, 3), (92, .ireturn, 1)])
set_option maxRecDepth 20000 in
theorem tX8_mid : ∀ q ∈ mX8_mid.2, decode mX8_mid.1.2.2.1 q.1 = .ok q.2 := kd_tab cX8_mid mX8_mid.2 (by decide +kernel)
def mX8_odds : kw_M := ((RX8, yX8_odds, cX8_odds, 9, (some .int)), [(0, .iload_n 3, 1), (1, .iconst 0, 1), (2, .bipush 12, 2), (4, .invokestatic 93, 3), (7, .ifCond .eq 16, 3), (10, .iload_n 2, 1), (11, .sipush (-999), 3), (14, .sipush 999, 3), (17, .invokestatic 93, 3), (20, .ifCond .ne 7, 3), (23, .iconst (-1), 1), (24, .goto 8, 3), (27, .aload_n 0, 1), (28, .iload_n 1, 1), (29, .invokevirtual 252, 3), (32, .istore 4, 2), (34, .iload 4, 2), (36, .ifCond .ge 6, 3), (39, .iload 4, 2), (41, .ireturn, 1), (42, .aload_n 0, 1), (43, .getfield 17, 3), (46, .iload_n 1, 1), (47, .iaload, 1), (48, .istore 5, 2), (50, .lconst 0, 1), (51, .lstore 6, 2), (53, .iconst 0, 1), (54, .istore 8, 2), (56, .iload 8, 2), (58, .iconst 1, 1), (59, .iload 5, 2), (61, .ishl, 1), (62, .if_icmp .ge 38, 3), (65, .lload 6, 2), (67, .aload_n 0, 1), (68, .iload_n 1, 1), (69, .iload 8, 2), (71, .invokevirtual 281, 3), (74, .iload_n 2, 1), (75, .if_icmp .lt 15, 3), (78, .aload_n 0, 1), (79, .iload 8, 2), (81, .iload 5, 2), (83, .iload_n 3, 1), (84, .invokevirtual 284, 3), (87, .goto 4, 3), (90, .lconst 0, 1), (91, .ladd, 1), (92, .lstore 6, 2), (94, .iinc 8 1, 3), (97, .goto (-41), 3), (100, .aload_n 0, 1), (101, .lload 6, 2), (103, .ldc2_w 288, 3), (106, .iload 5, 2), (108, .invokestatic 277, 3), (111, .invokevirtual 223, 3), (114, .ireturn, 1)])
set_option maxRecDepth 20000 in
theorem tX8_odds : ∀ q ∈ mX8_odds.2, decode mX8_odds.1.2.2.1 q.1 = .ok q.2 := kd_tab cX8_odds mX8_odds.2 (by decide +kernel)
def mX8_lots : kw_M := ((RX8, yX8_lots, cX8_lots, 6, (some .int)), [(0, .iload_n 1, 1), (1, .iconst 1, 1), (2, .bipush 20, 2), (4, .invokestatic 93, 3), (7, .ifCond .eq 14, 3), (10, .iload_n 2, 1), (11, .iconst 1, 1), (12, .ldc_w 290, 3), (15, .invokestatic 93, 3), (18, .ifCond .ne 5, 3), (21, .iconst (-1), 1), (22, .ireturn, 1), (23, .aload_n 0, 1), (24, .getfield 163, 3), (27, .ifCond .ne 6, 3), (30, .bipush (-4), 2), (32, .ireturn, 1), (33, .aload_n 0, 1), (34, .getfield 178, 3), (37, .iconst 2, 1), (38, .iload_n 1, 1), (39, .imul, 1), (40, .iadd, 1), (41, .bipush 40, 2), (43, .if_icmp .le 6, 3), (46, .bipush (-2), 2), (48, .ireturn, 1), (49, .iload_n 2, 1), (50, .i2l, 1), (51, .lstore_n 3, 1), (52, .iconst 0, 1), (53, .istore 5, 2), (55, .iload 5, 2), (57, .iload_n 1, 1), (58, .if_icmp .ge 43, 3), (61, .ldc2_w 291, 3), (64, .lload_n 3, 1), (65, .lmul, 1), (66, .ldc2_w 293, 3), (69, .lrem, 1), (70, .lstore_n 3, 1), (71, .aload_n 0, 1), (72, .lload_n 3, 1), (73, .aload_n 0, 1), (74, .getfield 163, 3), (77, .i2l, 1), (78, .lrem, 1), (79, .l2i, 1), (80, .invokevirtual 214, 3), (83, .aload_n 0, 1), (84, .invokevirtual 208, 3), (87, .aload_n 0, 1), (88, .aload_n 0, 1), (89, .getfield 175, 3), (92, .invokevirtual 220, 3), (95, .iinc 5 1, 3), (98, .goto (-43), 3), (101, .aload_n 0, 1), (102, .aload_n 0, 1), (103, .getfield 169, 3), (106, .iconst 1, 1), (107, .invokevirtual 119, 3), (110, .ireturn, 1)])
set_option maxRecDepth 20000 in
theorem tX8_lots : ∀ q ∈ mX8_lots.2, decode mX8_lots.1.2.2.1 q.1 = .ok q.2 := kd_tab cX8_lots mX8_lots.2 (by decide +kernel)
def mX8_asked : kw_M := ((RX8, yX8_asked, cX8_asked, 1, (some .int)), [(0, .aload_n 0, 1), (1, .getfield 87, 3), (4, .ireturn, 1)])
set_option maxRecDepth 20000 in
theorem tX8_asked : ∀ q ∈ mX8_asked.2, decode mX8_asked.1.2.2.1 q.1 = .ok q.2 := kd_tab cX8_asked mX8_asked.2 (by decide +kernel)
def mX8_upper : kw_M := ((RX8, yX8_upper, cX8_upper, 1, (some .long)), [(0, .aload_n 0, 1), (1, .getfield 90, 3), (4, .lreturn, 1)])
set_option maxRecDepth 20000 in
theorem tX8_upper : ∀ q ∈ mX8_upper.2, decode mX8_upper.1.2.2.1 q.1 = .ok q.2 := kd_tab cX8_upper mX8_upper.2 (by decide +kernel)
def mX8_lower : kw_M := ((RX8, yX8_lower, cX8_lower, 1, (some .long)), [(0, .aload_n 0, 1), (1, .getfield 13, 3), (4, .lreturn, 1)])
set_option maxRecDepth 20000 in
theorem tX8_lower : ∀ q ∈ mX8_lower.2, decode mX8_lower.1.2.2.1 q.1 = .ok q.2 := kd_tab cX8_lower mX8_lower.2 (by decide +kernel)
def mX8_there : kw_M := ((RX8, yX8_there, cX8_there, 4, (some .int)), [(0, .iconst 0, 1), (1, .istore_n 2, 1), (2, .iconst 0, 1), (3, .istore_n 3, 1), (4, .iload_n 3, 1), (5, .bipush 6, 2), (7, .if_icmp .ge 73, 3), (10, .iload_n 2, 1), (11, .iload_n 1, 1), (12, .bipush 7, 2), (14, .if_icmp .ne 12, 3), (17, .aload_n 0, 1), (18, .getfield 17, 3), (21, .iload_n 3, 1), (22, .iaload, 1), (23, .ifCond .ge 44, 3), (26, .iload_n 1, 1), (27, .bipush 8, 2), (29, .if_icmp .ne 17, 3), (32, .iload_n 3, 1), (33, .iconst 4, 1), (34, .if_icmp .ge 12, 3), (37, .aload_n 0, 1), (38, .getfield 26, 3), (41, .iload_n 3, 1), (42, .iaload, 1), (43, .ifCond .ge 24, 3), (46, .iload_n 1, 1), (47, .bipush 9, 2), (49, .if_icmp .ne 22, 3), (52, .iload_n 3, 1), (53, .iconst 3, 1), (54, .if_icmp .ge 17, 3), (57, .aload_n 0, 1), (58, .getfield 63, 3), (61, .iload_n 3, 1), (62, .iaload, 1), (63, .iconst 1, 1), (64, .if_icmp .ne 7, 3), (67, .iconst 1, 1), (68, .goto 4, 3), (71, .iconst 0, 1), (72, .iadd, 1), (73, .istore_n 2, 1), (74, .iinc 3 1, 3), (77, .goto (-73), 3), (80, .iload_n 2, 1), (81, .ireturn, 1)])
set_option maxRecDepth 20000 in
theorem tX8_there : ∀ q ∈ mX8_there.2, decode mX8_there.1.2.2.1 q.1 = .ok q.2 := kd_tab cX8_there mX8_there.2 (by decide +kernel)
def mX8_tells : kw_M := ((RX8, yX8_tells, cX8_tells, 2, (some .int)), [(0, .iload_n 1, 1), (1, .tableswitch 83 0 6 #[43, 48, 53, 58, 66, 71, 77], 43), (44, .aload_n 0, 1), (45, .getfield 163, 3), (48, .ireturn, 1), (49, .aload_n 0, 1), (50, .getfield 166, 3), (53, .ireturn, 1), (54, .aload_n 0, 1), (55, .getfield 178, 3), (58, .ireturn, 1), (59, .aload_n 0, 1), (60, .getfield 175, 3), (63, .invokestatic 217, 3), (66, .ireturn, 1), (67, .aload_n 0, 1), (68, .invokevirtual 249, 3), (71, .ireturn, 1), (72, .aload_n 0, 1), (73, .iconst 1, 1), (74, .invokevirtual 295, 3), (77, .ireturn, 1), (78, .aload_n 0, 1), (79, .iconst 4, 1), (80, .invokevirtual 295, 3), (83, .ireturn, 1), (84, .aload_n 0, 1), (85, .iload_n 1, 1), (86, .invokevirtual 298, 3), (89, .ireturn, 1)])
set_option maxRecDepth 20000 in
theorem tX8_tells : ∀ q ∈ mX8_tells.2, decode mX8_tells.1.2.2.1 q.1 = .ok q.2 := kd_tab cX8_tells mX8_tells.2 (by decide +kernel)
def mX8_count : kw_M := ((RX8, yX8_count, cX8_count, 2, (some .int)), [(0, .iload_n 1, 1), (1, .iconst 0, 1), (2, .bipush 9, 2), (4, .invokestatic 93, 3), (7, .ifCond .eq 11, 3), (10, .aload_n 0, 1), (11, .iload_n 1, 1), (12, .invokevirtual 301, 3), (15, .goto 4, 3), (18, .iconst (-1), 1), (19, .ireturn, 1)])
set_option maxRecDepth 20000 in
theorem tX8_count : ∀ q ∈ mX8_count.2, decode mX8_count.1.2.2.1 q.1 = .ok q.2 := kd_tab cX8_count mX8_count.2 (by decide +kernel)
def mX8_miles : kw_M := ((RX8, yX8_miles, cX8_miles, 1, (some .int)), [(0, .aload_n 0, 1), (1, .aload_n 0, 1), (2, .getfield 172, 3), (5, .i2l, 1), (6, .lconst 1, 1), (7, .invokevirtual 223, 3), (10, .pop, 1), (11, .aload_n 0, 1), (12, .getfield 169, 3), (15, .ireturn, 1)])
set_option maxRecDepth 20000 in
theorem tX8_miles : ∀ q ∈ mX8_miles.2, decode mX8_miles.1.2.2.1 q.1 = .ok q.2 := kd_tab cX8_miles mX8_miles.2 (by decide +kernel)
def mX8_finding : kw_M := ((RX8, yX8_finding, cX8_finding, 1, (some .int)), [(0, .aload_n 0, 1), (1, .getfield 84, 3), (4, .ireturn, 1)])
set_option maxRecDepth 20000 in
theorem tX8_finding : ∀ q ∈ mX8_finding.2, decode mX8_finding.1.2.2.1 q.1 = .ok q.2 := kd_tab cX8_finding mX8_finding.2 (by decide +kernel)
def mX8_findings : kw_M := ((RX8, yX8_findings, cX8_findings, 2, (some .int)), [(0, .iload_n 1, 1), (1, .iconst 1, 1), (2, .iconst 5, 1), (3, .invokestatic 93, 3), (6, .ifCond .eq 12, 3), (9, .aload_n 0, 1), (10, .getfield 7, 3), (13, .iload_n 1, 1), (14, .iaload, 1), (15, .goto 4, 3), (18, .iconst (-1), 1), (19, .ireturn, 1)])
set_option maxRecDepth 20000 in
theorem tX8_findings : ∀ q ∈ mX8_findings.2, decode mX8_findings.1.2.2.1 q.1 = .ok q.2 := kd_tab cX8_findings mX8_findings.2 (by decide +kernel)
def mX8_mix : kw_M := ((RX8, yX8_mix, cX8_mix, 2, none), [(0, .aload_n 0, 1), (1, .ldc2_w 304, 3), (4, .aload_n 0, 1), (5, .getfield 306, 3), (8, .lmul, 1), (9, .iload_n 1, 1), (10, .i2l, 1), (11, .ladd, 1), (12, .putfield 306, 3), (15, .return_, 1)])
set_option maxRecDepth 20000 in
theorem tX8_mix : ∀ q ∈ mX8_mix.2, decode mX8_mix.1.2.2.1 q.1 = .ok q.2 := kd_tab cX8_mix mX8_mix.2 (by decide +kernel)
def mX8_mixTown : kw_M := ((RX8, yX8_mixTown, cX8_mixTown, 3, none), [(0, .aload_n 0, 1), (1, .aload_n 0, 1), (2, .getfield 169, 3), (5, .invokevirtual 309, 3), (8, .aload_n 0, 1), (9, .aload_n 0, 1), (10, .getfield 172, 3), (13, .invokevirtual 309, 3), (16, .iconst 0, 1), (17, .istore_n 1, 1), (18, .iload_n 1, 1), (19, .aload_n 0, 1), (20, .getfield 163, 3), (23, .if_icmp .ge 33, 3), (26, .iconst 0, 1), (27, .istore_n 2, 1), (28, .iload_n 2, 1), (29, .bipush 6, 2), (31, .if_icmp .gt 19, 3), (34, .aload_n 0, 1), (35, .aload_n 0, 1), (36, .iload_n 1, 1), (37, .iload_n 2, 1), (38, .invokevirtual 230, 3), (41, .invokevirtual 309, 3), (44, .iinc 2 1, 3), (47, .goto (-19), 3), (50, .iinc 1 1, 3), (53, .goto (-35), 3), (56, .iconst 0, 1), (57, .istore_n 1, 1), (58, .iload_n 1, 1), (59, .iconst 3, 1), (60, .if_icmp .ge 41, 3), (63, .aload_n 0, 1), (64, .aload_n 0, 1), (65, .getfield 63, 3), (68, .iload_n 1, 1), (69, .iaload, 1), (70, .iconst 1, 1), (71, .if_icmp .ne 20, 3), (74, .aload_n 0, 1), (75, .getfield 66, 3), (78, .sipush 411, 3), (81, .iload_n 1, 1), (82, .imul, 1), (83, .sipush 410, 3), (86, .iadd, 1), (87, .iaload, 1), (88, .goto 4, 3), (91, .iconst (-1), 1), (92, .invokevirtual 309, 3), (95, .iinc 1 1, 3), (98, .goto (-40), 3), (101, .return_, 1)])
set_option maxRecDepth 20000 in
theorem tX8_mixTown : ∀ q ∈ mX8_mixTown.2, decode mX8_mixTown.1.2.2.1 q.1 = .ok q.2 := kd_tab cX8_mixTown mX8_mixTown.2 (by decide +kernel)
def mX8_digest : kw_M := ((RX8, yX8_digest, cX8_digest, 3, (some .long)), [(0, .aload_n 0, 1), (1, .ldc2_w 312, 3), (4, .putfield 306, 3), (7, .iconst 0, 1), (8, .istore_n 1, 1), (9, .iload_n 1, 1), (10, .bipush 9, 2), (12, .if_icmp .gt 18, 3), (15, .aload_n 0, 1), (16, .aload_n 0, 1), (17, .iload_n 1, 1), (18, .invokevirtual 301, 3), (21, .invokevirtual 309, 3), (24, .iinc 1 1, 3), (27, .goto (-18), 3), (30, .aload_n 0, 1), (31, .invokevirtual 314, 3), (34, .iconst 0, 1), (35, .istore_n 1, 1), (36, .iload_n 1, 1), (37, .bipush 6, 2), (39, .if_icmp .ge 60, 3), (42, .aload_n 0, 1), (43, .aload_n 0, 1), (44, .getfield 17, 3), (47, .iload_n 1, 1), (48, .iaload, 1), (49, .ifCond .ge 7, 3), (52, .iconst (-1), 1), (53, .goto 9, 3), (56, .aload_n 0, 1), (57, .getfield 17, 3), (60, .iload_n 1, 1), (61, .iaload, 1), (62, .invokevirtual 309, 3), (65, .iconst 0, 1), (66, .istore_n 2, 1), (67, .iload_n 2, 1), (68, .aload_n 0, 1), (69, .getfield 17, 3), (72, .iload_n 1, 1), (73, .iaload, 1), (74, .if_icmp .ge 19, 3), (77, .aload_n 0, 1), (78, .aload_n 0, 1), (79, .iload_n 1, 1), (80, .iload_n 2, 1), (81, .invokevirtual 115, 3), (84, .invokevirtual 309, 3), (87, .iinc 2 1, 3), (90, .goto (-23), 3), (93, .iinc 1 1, 3), (96, .goto (-60), 3), (99, .iconst 0, 1), (100, .istore_n 1, 1), (101, .iload_n 1, 1), (102, .iconst 4, 1), (103, .if_icmp .ge 65, 3), (106, .aload_n 0, 1), (107, .aload_n 0, 1), (108, .getfield 26, 3), (111, .iload_n 1, 1), (112, .iaload, 1), (113, .ifCond .ge 7, 3), (116, .iconst (-1), 1), (117, .goto 9, 3), (120, .aload_n 0, 1), (121, .getfield 26, 3), (124, .iload_n 1, 1), (125, .iaload, 1), (126, .invokevirtual 309, 3), (129, .iconst 0, 1), (130, .istore_n 2, 1), (131, .iload_n 2, 1), (132, .aload_n 0, 1), (133, .getfield 26, 3), (136, .iload_n 1, 1), (137, .iaload, 1), (138, .if_icmp .ge 24, 3), (141, .aload_n 0, 1), (142, .aload_n 0, 1), (143, .getfield 29, 3), (146, .bipush 60, 2), (148, .iload_n 1, 1), (149, .imul, 1), (150, .iload_n 2, 1), (151, .iadd, 1), (152, .iaload, 1), (153, .invokevirtual 309, 3), (156, .iinc 2 1, 3), (159, .goto (-28), 3), (162, .iinc 1 1, 3), (165, .goto (-64), 3), (168, .aload_n 0, 1), (169, .getfield 306, 3), (172, .lreturn, 1)])
set_option maxRecDepth 20000 in
theorem tX8_digest : ∀ q ∈ mX8_digest.2, decode mX8_digest.1.2.2.1 q.1 = .ok q.2 := kd_tab cX8_digest mX8_digest.2 (by decide +kernel)
end
