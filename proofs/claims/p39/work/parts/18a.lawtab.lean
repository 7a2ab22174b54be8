theorem kl_step {L B R : List UInt8} {n : Nat} (h : L.drop n = B ++ R) (hB : B.length = 60) : L.drop (n + 60) = R := by
  have e := congrArg (List.drop 60) h
  rw [List.drop_drop, List.drop_left' hB] at e
  exact e
theorem kl_u1 {c : ByteArray} {n : Nat} {B R : List UInt8} (h : c.data.toList.drop n = B ++ R) (p j v : Nat) (b : UInt8) (hp : n + j = p) (hb : B[j]? = some b) (hv : b.toNat = v) : (Reader.u1 : Decoder Nat) c p = .ok (v, p + 1) := by
  have e1 : (B ++ R)[j]? = some b := by
    obtain ⟨hj, -⟩ := List.getElem?_eq_some_iff.mp hb
    rw [List.getElem?_append_left hj]; exact hb
  rw [← h, List.getElem?_drop, hp, Array.getElem?_toList] at e1
  obtain ⟨hp2, e2⟩ := Array.getElem?_eq_some_iff.mp e1
  have e3 : (Reader.u1 : Decoder Nat) c p = if h : p < c.size then Except.ok ((c[p]'h).toNat, p + 1) else Except.error (HasTruncated.truncated p) := by
    show (if h : p < c.size then _ else _ : Decoder Nat) c p = _
    by_cases q : p < c.size
    · rw [dif_pos q, dif_pos q]; rfl
    · rw [dif_neg q, dif_neg q]; rfl
  have q : p < c.size := hp2
  rw [e3, dif_pos q]
  have e4 : c[p]'q = b := e2
  rw [e4, hv]

theorem dk_3 (c : ByteArray) (p : Nat) (h0 : (Reader.u1 : Decoder Nat) c p = .ok (3, p + 1)) : decode c p = .ok (.iconst 0, 1) := by
  have e : decode c p = Except.bind (Except.bind ((Reader.u1 : Decoder Nat) c p) _) _ := rfl
  rw [e, h0]
  show (Except.ok (.iconst 0, p + 1 - p) : Except DecodeError (Instr × Nat)) = _
  rw [show p + 1 - p = 1 by omega]
theorem dk_4 (c : ByteArray) (p : Nat) (h0 : (Reader.u1 : Decoder Nat) c p = .ok (4, p + 1)) : decode c p = .ok (.iconst 1, 1) := by
  have e : decode c p = Except.bind (Except.bind ((Reader.u1 : Decoder Nat) c p) _) _ := rfl
  rw [e, h0]
  show (Except.ok (.iconst 1, p + 1 - p) : Except DecodeError (Instr × Nat)) = _
  rw [show p + 1 - p = 1 by omega]
theorem dk_5 (c : ByteArray) (p : Nat) (h0 : (Reader.u1 : Decoder Nat) c p = .ok (5, p + 1)) : decode c p = .ok (.iconst 2, 1) := by
  have e : decode c p = Except.bind (Except.bind ((Reader.u1 : Decoder Nat) c p) _) _ := rfl
  rw [e, h0]
  show (Except.ok (.iconst 2, p + 1 - p) : Except DecodeError (Instr × Nat)) = _
  rw [show p + 1 - p = 1 by omega]
theorem dk_6 (c : ByteArray) (p : Nat) (h0 : (Reader.u1 : Decoder Nat) c p = .ok (6, p + 1)) : decode c p = .ok (.iconst 3, 1) := by
  have e : decode c p = Except.bind (Except.bind ((Reader.u1 : Decoder Nat) c p) _) _ := rfl
  rw [e, h0]
  show (Except.ok (.iconst 3, p + 1 - p) : Except DecodeError (Instr × Nat)) = _
  rw [show p + 1 - p = 1 by omega]
theorem dk_7 (c : ByteArray) (p : Nat) (h0 : (Reader.u1 : Decoder Nat) c p = .ok (7, p + 1)) : decode c p = .ok (.iconst 4, 1) := by
  have e : decode c p = Except.bind (Except.bind ((Reader.u1 : Decoder Nat) c p) _) _ := rfl
  rw [e, h0]
  show (Except.ok (.iconst 4, p + 1 - p) : Except DecodeError (Instr × Nat)) = _
  rw [show p + 1 - p = 1 by omega]
theorem dk_8 (c : ByteArray) (p : Nat) (h0 : (Reader.u1 : Decoder Nat) c p = .ok (8, p + 1)) : decode c p = .ok (.iconst 5, 1) := by
  have e : decode c p = Except.bind (Except.bind ((Reader.u1 : Decoder Nat) c p) _) _ := rfl
  rw [e, h0]
  show (Except.ok (.iconst 5, p + 1 - p) : Except DecodeError (Instr × Nat)) = _
  rw [show p + 1 - p = 1 by omega]
theorem dk_16 (c : ByteArray) (p : Nat) (h0 : (Reader.u1 : Decoder Nat) c p = .ok (16, p + 1)) (b1 : Nat) (h1 : (Reader.u1 : Decoder Nat) c (p + 1) = .ok (b1, p + 1 + 1)) : decode c p = .ok (.bipush (Reader.signed 8 b1), 2) := by
  have e : decode c p = Except.bind (Except.bind ((Reader.u1 : Decoder Nat) c p) _) _ := rfl
  rw [e, h0]
  show Except.bind (Except.bind (Except.bind ((Reader.u1 : Decoder Nat) c (p + 1)) _) _) _ = _
  rw [h1]
  show (Except.ok (.bipush (Reader.signed 8 b1), p + 1 + 1 - p) : Except DecodeError (Instr × Nat)) = _
  rw [show p + 1 + 1 - p = 2 by omega]
theorem dk_29 (c : ByteArray) (p : Nat) (h0 : (Reader.u1 : Decoder Nat) c p = .ok (29, p + 1)) : decode c p = .ok (.iload_n 3, 1) := by
  have e : decode c p = Except.bind (Except.bind ((Reader.u1 : Decoder Nat) c p) _) _ := rfl
  rw [e, h0]
  show (Except.ok (.iload_n 3, p + 1 - p) : Except DecodeError (Instr × Nat)) = _
  rw [show p + 1 - p = 1 by omega]
theorem dk_42 (c : ByteArray) (p : Nat) (h0 : (Reader.u1 : Decoder Nat) c p = .ok (42, p + 1)) : decode c p = .ok (.aload_n 0, 1) := by
  have e : decode c p = Except.bind (Except.bind ((Reader.u1 : Decoder Nat) c p) _) _ := rfl
  rw [e, h0]
  show (Except.ok (.aload_n 0, p + 1 - p) : Except DecodeError (Instr × Nat)) = _
  rw [show p + 1 - p = 1 by omega]
theorem dk_43 (c : ByteArray) (p : Nat) (h0 : (Reader.u1 : Decoder Nat) c p = .ok (43, p + 1)) : decode c p = .ok (.aload_n 1, 1) := by
  have e : decode c p = Except.bind (Except.bind ((Reader.u1 : Decoder Nat) c p) _) _ := rfl
  rw [e, h0]
  show (Except.ok (.aload_n 1, p + 1 - p) : Except DecodeError (Instr × Nat)) = _
  rw [show p + 1 - p = 1 by omega]
theorem dk_44 (c : ByteArray) (p : Nat) (h0 : (Reader.u1 : Decoder Nat) c p = .ok (44, p + 1)) : decode c p = .ok (.aload_n 2, 1) := by
  have e : decode c p = Except.bind (Except.bind ((Reader.u1 : Decoder Nat) c p) _) _ := rfl
  rw [e, h0]
  show (Except.ok (.aload_n 2, p + 1 - p) : Except DecodeError (Instr × Nat)) = _
  rw [show p + 1 - p = 1 by omega]
theorem dk_46 (c : ByteArray) (p : Nat) (h0 : (Reader.u1 : Decoder Nat) c p = .ok (46, p + 1)) : decode c p = .ok (.iaload, 1) := by
  have e : decode c p = Except.bind (Except.bind ((Reader.u1 : Decoder Nat) c p) _) _ := rfl
  rw [e, h0]
  show (Except.ok (.iaload, p + 1 - p) : Except DecodeError (Instr × Nat)) = _
  rw [show p + 1 - p = 1 by omega]
theorem dk_62 (c : ByteArray) (p : Nat) (h0 : (Reader.u1 : Decoder Nat) c p = .ok (62, p + 1)) : decode c p = .ok (.istore_n 3, 1) := by
  have e : decode c p = Except.bind (Except.bind ((Reader.u1 : Decoder Nat) c p) _) _ := rfl
  rw [e, h0]
  show (Except.ok (.istore_n 3, p + 1 - p) : Except DecodeError (Instr × Nat)) = _
  rw [show p + 1 - p = 1 by omega]
theorem dk_76 (c : ByteArray) (p : Nat) (h0 : (Reader.u1 : Decoder Nat) c p = .ok (76, p + 1)) : decode c p = .ok (.astore_n 1, 1) := by
  have e : decode c p = Except.bind (Except.bind ((Reader.u1 : Decoder Nat) c p) _) _ := rfl
  rw [e, h0]
  show (Except.ok (.astore_n 1, p + 1 - p) : Except DecodeError (Instr × Nat)) = _
  rw [show p + 1 - p = 1 by omega]
theorem dk_77 (c : ByteArray) (p : Nat) (h0 : (Reader.u1 : Decoder Nat) c p = .ok (77, p + 1)) : decode c p = .ok (.astore_n 2, 1) := by
  have e : decode c p = Except.bind (Except.bind ((Reader.u1 : Decoder Nat) c p) _) _ := rfl
  rw [e, h0]
  show (Except.ok (.astore_n 2, p + 1 - p) : Except DecodeError (Instr × Nat)) = _
  rw [show p + 1 - p = 1 by omega]
theorem dk_87 (c : ByteArray) (p : Nat) (h0 : (Reader.u1 : Decoder Nat) c p = .ok (87, p + 1)) : decode c p = .ok (.pop, 1) := by
  have e : decode c p = Except.bind (Except.bind ((Reader.u1 : Decoder Nat) c p) _) _ := rfl
  rw [e, h0]
  show (Except.ok (.pop, p + 1 - p) : Except DecodeError (Instr × Nat)) = _
  rw [show p + 1 - p = 1 by omega]
theorem dk_88 (c : ByteArray) (p : Nat) (h0 : (Reader.u1 : Decoder Nat) c p = .ok (88, p + 1)) : decode c p = .ok (.pop2, 1) := by
  have e : decode c p = Except.bind (Except.bind ((Reader.u1 : Decoder Nat) c p) _) _ := rfl
  rw [e, h0]
  show (Except.ok (.pop2, p + 1 - p) : Except DecodeError (Instr × Nat)) = _
  rw [show p + 1 - p = 1 by omega]
theorem dk_89 (c : ByteArray) (p : Nat) (h0 : (Reader.u1 : Decoder Nat) c p = .ok (89, p + 1)) : decode c p = .ok (.dup, 1) := by
  have e : decode c p = Except.bind (Except.bind ((Reader.u1 : Decoder Nat) c p) _) _ := rfl
  rw [e, h0]
  show (Except.ok (.dup, p + 1 - p) : Except DecodeError (Instr × Nat)) = _
  rw [show p + 1 - p = 1 by omega]
theorem dk_96 (c : ByteArray) (p : Nat) (h0 : (Reader.u1 : Decoder Nat) c p = .ok (96, p + 1)) : decode c p = .ok (.iadd, 1) := by
  have e : decode c p = Except.bind (Except.bind ((Reader.u1 : Decoder Nat) c p) _) _ := rfl
  rw [e, h0]
  show (Except.ok (.iadd, p + 1 - p) : Except DecodeError (Instr × Nat)) = _
  rw [show p + 1 - p = 1 by omega]
theorem dk_100 (c : ByteArray) (p : Nat) (h0 : (Reader.u1 : Decoder Nat) c p = .ok (100, p + 1)) : decode c p = .ok (.isub, 1) := by
  have e : decode c p = Except.bind (Except.bind ((Reader.u1 : Decoder Nat) c p) _) _ := rfl
  rw [e, h0]
  show (Except.ok (.isub, p + 1 - p) : Except DecodeError (Instr × Nat)) = _
  rw [show p + 1 - p = 1 by omega]
theorem dk_126 (c : ByteArray) (p : Nat) (h0 : (Reader.u1 : Decoder Nat) c p = .ok (126, p + 1)) : decode c p = .ok (.iand, 1) := by
  have e : decode c p = Except.bind (Except.bind ((Reader.u1 : Decoder Nat) c p) _) _ := rfl
  rw [e, h0]
  show (Except.ok (.iand, p + 1 - p) : Except DecodeError (Instr × Nat)) = _
  rw [show p + 1 - p = 1 by omega]
theorem dk_132 (c : ByteArray) (p : Nat) (h0 : (Reader.u1 : Decoder Nat) c p = .ok (132, p + 1)) (b1 : Nat) (h1 : (Reader.u1 : Decoder Nat) c (p + 1) = .ok (b1, p + 1 + 1)) (b2 : Nat) (h2 : (Reader.u1 : Decoder Nat) c (p + 1 + 1) = .ok (b2, p + 1 + 1 + 1)) : decode c p = .ok (.iinc b1 (Reader.signed 8 b2), 3) := by
  have e : decode c p = Except.bind (Except.bind ((Reader.u1 : Decoder Nat) c p) _) _ := rfl
  rw [e, h0]
  show Except.bind (Except.bind ((Reader.u1 : Decoder Nat) c (p + 1)) _) _ = _
  rw [h1]
  show Except.bind (Except.bind (Except.bind ((Reader.u1 : Decoder Nat) c (p + 1 + 1)) _) _) _ = _
  rw [h2]
  show (Except.ok (.iinc b1 (Reader.signed 8 b2), p + 1 + 1 + 1 - p) : Except DecodeError (Instr × Nat)) = _
  rw [show p + 1 + 1 + 1 - p = 3 by omega]
theorem dk_148 (c : ByteArray) (p : Nat) (h0 : (Reader.u1 : Decoder Nat) c p = .ok (148, p + 1)) : decode c p = .ok (.lcmp, 1) := by
  have e : decode c p = Except.bind (Except.bind ((Reader.u1 : Decoder Nat) c p) _) _ := rfl
  rw [e, h0]
  show (Except.ok (.lcmp, p + 1 - p) : Except DecodeError (Instr × Nat)) = _
  rw [show p + 1 - p = 1 by omega]
theorem dk_153 (c : ByteArray) (p : Nat) (h0 : (Reader.u1 : Decoder Nat) c p = .ok (153, p + 1)) (b1 : Nat) (h1 : (Reader.u1 : Decoder Nat) c (p + 1) = .ok (b1, p + 1 + 1)) (b2 : Nat) (h2 : (Reader.u1 : Decoder Nat) c (p + 1 + 1) = .ok (b2, p + 1 + 1 + 1)) : decode c p = .ok (.ifCond .eq (Reader.signed 16 (b1 * 256 + b2)), 3) := by
  have e : decode c p = Except.bind (Except.bind ((Reader.u1 : Decoder Nat) c p) _) _ := rfl
  rw [e, h0]
  show Except.bind (Except.bind (Except.bind (Except.bind ((Reader.u1 : Decoder Nat) c (p + 1)) _) _) _) _ = _
  rw [h1]
  show Except.bind (Except.bind (Except.bind (Except.bind ((Reader.u1 : Decoder Nat) c (p + 1 + 1)) _) _) _) _ = _
  rw [h2]
  show (Except.ok (.ifCond .eq (Reader.signed 16 (b1 * 256 + b2)), p + 1 + 1 + 1 - p) : Except DecodeError (Instr × Nat)) = _
  rw [show p + 1 + 1 + 1 - p = 3 by omega]
theorem dk_163 (c : ByteArray) (p : Nat) (h0 : (Reader.u1 : Decoder Nat) c p = .ok (163, p + 1)) (b1 : Nat) (h1 : (Reader.u1 : Decoder Nat) c (p + 1) = .ok (b1, p + 1 + 1)) (b2 : Nat) (h2 : (Reader.u1 : Decoder Nat) c (p + 1 + 1) = .ok (b2, p + 1 + 1 + 1)) : decode c p = .ok (.if_icmp .gt (Reader.signed 16 (b1 * 256 + b2)), 3) := by
  have e : decode c p = Except.bind (Except.bind ((Reader.u1 : Decoder Nat) c p) _) _ := rfl
  rw [e, h0]
  show Except.bind (Except.bind (Except.bind (Except.bind ((Reader.u1 : Decoder Nat) c (p + 1)) _) _) _) _ = _
  rw [h1]
  show Except.bind (Except.bind (Except.bind (Except.bind ((Reader.u1 : Decoder Nat) c (p + 1 + 1)) _) _) _) _ = _
  rw [h2]
  show (Except.ok (.if_icmp .gt (Reader.signed 16 (b1 * 256 + b2)), p + 1 + 1 + 1 - p) : Except DecodeError (Instr × Nat)) = _
  rw [show p + 1 + 1 + 1 - p = 3 by omega]
theorem dk_167 (c : ByteArray) (p : Nat) (h0 : (Reader.u1 : Decoder Nat) c p = .ok (167, p + 1)) (b1 : Nat) (h1 : (Reader.u1 : Decoder Nat) c (p + 1) = .ok (b1, p + 1 + 1)) (b2 : Nat) (h2 : (Reader.u1 : Decoder Nat) c (p + 1 + 1) = .ok (b2, p + 1 + 1 + 1)) : decode c p = .ok (.goto (Reader.signed 16 (b1 * 256 + b2)), 3) := by
  have e : decode c p = Except.bind (Except.bind ((Reader.u1 : Decoder Nat) c p) _) _ := rfl
  rw [e, h0]
  show Except.bind (Except.bind (Except.bind (Except.bind ((Reader.u1 : Decoder Nat) c (p + 1)) _) _) _) _ = _
  rw [h1]
  show Except.bind (Except.bind (Except.bind (Except.bind ((Reader.u1 : Decoder Nat) c (p + 1 + 1)) _) _) _) _ = _
  rw [h2]
  show (Except.ok (.goto (Reader.signed 16 (b1 * 256 + b2)), p + 1 + 1 + 1 - p) : Except DecodeError (Instr × Nat)) = _
  rw [show p + 1 + 1 + 1 - p = 3 by omega]
theorem dk_172 (c : ByteArray) (p : Nat) (h0 : (Reader.u1 : Decoder Nat) c p = .ok (172, p + 1)) : decode c p = .ok (.ireturn, 1) := by
  have e : decode c p = Except.bind (Except.bind ((Reader.u1 : Decoder Nat) c p) _) _ := rfl
  rw [e, h0]
  show (Except.ok (.ireturn, p + 1 - p) : Except DecodeError (Instr × Nat)) = _
  rw [show p + 1 - p = 1 by omega]
theorem dk_182 (c : ByteArray) (p : Nat) (h0 : (Reader.u1 : Decoder Nat) c p = .ok (182, p + 1)) (b1 : Nat) (h1 : (Reader.u1 : Decoder Nat) c (p + 1) = .ok (b1, p + 1 + 1)) (b2 : Nat) (h2 : (Reader.u1 : Decoder Nat) c (p + 1 + 1) = .ok (b2, p + 1 + 1 + 1)) : decode c p = .ok (.invokevirtual (b1 * 256 + b2), 3) := by
  have e : decode c p = Except.bind (Except.bind ((Reader.u1 : Decoder Nat) c p) _) _ := rfl
  rw [e, h0]
  show Except.bind (Except.bind (Except.bind ((Reader.u1 : Decoder Nat) c (p + 1)) _) _) _ = _
  rw [h1]
  show Except.bind (Except.bind (Except.bind ((Reader.u1 : Decoder Nat) c (p + 1 + 1)) _) _) _ = _
  rw [h2]
  show (Except.ok (.invokevirtual (b1 * 256 + b2), p + 1 + 1 + 1 - p) : Except DecodeError (Instr × Nat)) = _
  rw [show p + 1 + 1 + 1 - p = 3 by omega]
theorem dk_183 (c : ByteArray) (p : Nat) (h0 : (Reader.u1 : Decoder Nat) c p = .ok (183, p + 1)) (b1 : Nat) (h1 : (Reader.u1 : Decoder Nat) c (p + 1) = .ok (b1, p + 1 + 1)) (b2 : Nat) (h2 : (Reader.u1 : Decoder Nat) c (p + 1 + 1) = .ok (b2, p + 1 + 1 + 1)) : decode c p = .ok (.invokespecial (b1 * 256 + b2), 3) := by
  have e : decode c p = Except.bind (Except.bind ((Reader.u1 : Decoder Nat) c p) _) _ := rfl
  rw [e, h0]
  show Except.bind (Except.bind (Except.bind ((Reader.u1 : Decoder Nat) c (p + 1)) _) _) _ = _
  rw [h1]
  show Except.bind (Except.bind (Except.bind ((Reader.u1 : Decoder Nat) c (p + 1 + 1)) _) _) _ = _
  rw [h2]
  show (Except.ok (.invokespecial (b1 * 256 + b2), p + 1 + 1 + 1 - p) : Except DecodeError (Instr × Nat)) = _
  rw [show p + 1 + 1 + 1 - p = 3 by omega]
theorem dk_187 (c : ByteArray) (p : Nat) (h0 : (Reader.u1 : Decoder Nat) c p = .ok (187, p + 1)) (b1 : Nat) (h1 : (Reader.u1 : Decoder Nat) c (p + 1) = .ok (b1, p + 1 + 1)) (b2 : Nat) (h2 : (Reader.u1 : Decoder Nat) c (p + 1 + 1) = .ok (b2, p + 1 + 1 + 1)) : decode c p = .ok (.new (b1 * 256 + b2), 3) := by
  have e : decode c p = Except.bind (Except.bind ((Reader.u1 : Decoder Nat) c p) _) _ := rfl
  rw [e, h0]
  show Except.bind (Except.bind (Except.bind ((Reader.u1 : Decoder Nat) c (p + 1)) _) _) _ = _
  rw [h1]
  show Except.bind (Except.bind (Except.bind ((Reader.u1 : Decoder Nat) c (p + 1 + 1)) _) _) _ = _
  rw [h2]
  show (Except.ok (.new (b1 * 256 + b2), p + 1 + 1 + 1 - p) : Except DecodeError (Instr × Nat)) = _
  rw [show p + 1 + 1 + 1 - p = 3 by omega]
theorem dk_190 (c : ByteArray) (p : Nat) (h0 : (Reader.u1 : Decoder Nat) c p = .ok (190, p + 1)) : decode c p = .ok (.arraylength, 1) := by
  have e : decode c p = Except.bind (Except.bind ((Reader.u1 : Decoder Nat) c p) _) _ := rfl
  rw [e, h0]
  show (Except.ok (.arraylength, p + 1 - p) : Except DecodeError (Instr × Nat)) = _
  rw [show p + 1 - p = 1 by omega]
def kl_B0 : List UInt8 := [187, 0, 7, 89, 183, 0, 9, 76, 187, 0, 10, 89, 183, 0, 12, 77, 3, 62, 29, 42, 190, 16, 6, 100, 163, 5, 62, 42, 29, 46, 16, 63, 126, 170, 0, 0, 0, 0, 5, 47, 0, 0, 0, 0, 0, 0, 0, 42, 0, 0, 0, 187, 0, 0, 0, 220, 0, 0, 1, 7]
def kl_B1 : List UInt8 := [0, 0, 1, 40, 0, 0, 1, 63, 0, 0, 1, 126, 0, 0, 1, 149, 0, 0, 1, 182, 0, 0, 1, 225, 0, 0, 1, 248, 0, 0, 2, 15, 0, 0, 2, 48, 0, 0, 2, 81, 0, 0, 2, 104, 0, 0, 2, 127, 0, 0, 2, 150, 0, 0, 2, 163, 0, 0, 2, 186]
def kl_B2 : List UInt8 := [0, 0, 2, 209, 0, 0, 2, 232, 0, 0, 2, 255, 0, 0, 3, 22, 0, 0, 3, 45, 0, 0, 3, 58, 0, 0, 3, 81, 0, 0, 3, 104, 0, 0, 3, 147, 0, 0, 3, 170, 0, 0, 3, 203, 0, 0, 3, 236, 0, 0, 4, 13, 0, 0, 4, 46, 0, 0, 4, 69]
def kl_B3 : List UInt8 := [0, 0, 4, 102, 0, 0, 4, 145, 0, 0, 4, 178, 0, 0, 4, 191, 0, 0, 4, 204, 0, 0, 4, 218, 0, 0, 4, 241, 0, 0, 4, 254, 0, 0, 5, 11, 0, 0, 5, 34, 43, 42, 29, 4, 96, 46, 42, 29, 5, 96, 46, 182, 0, 13, 87, 44, 42, 29, 4, 96]
def kl_B4 : List UInt8 := [46, 42, 29, 5, 96, 46, 182, 0, 17, 87, 167, 4, 86, 43, 42, 29, 4, 96, 46, 42, 29, 5, 96, 46, 42, 29, 6, 96, 46, 182, 0, 18, 87, 44, 42, 29, 4, 96, 46, 42, 29, 5, 96, 46, 42, 29, 6, 96, 46, 182, 0, 22, 87, 167, 4, 43, 43, 42, 29, 4]
def kl_B5 : List UInt8 := [96, 46, 42, 29, 5, 96, 46, 182, 0, 23, 87, 44, 42, 29, 4, 96, 46, 42, 29, 5, 96, 46, 182, 0, 26, 87, 167, 4, 10, 43, 42, 29, 4, 96, 46, 182, 0, 27, 87, 44, 42, 29, 4, 96, 46, 182, 0, 31, 87, 167, 3, 243, 43, 42, 29, 4, 96, 46, 42, 29]
def kl_B6 : List UInt8 := [5, 96, 46, 42, 29, 6, 96, 46, 42, 29, 7, 96, 46, 42, 29, 8, 96, 46, 182, 0, 32, 87, 44, 42, 29, 4, 96, 46, 42, 29, 5, 96, 46, 42, 29, 6, 96, 46, 42, 29, 7, 96, 46, 42, 29, 8, 96, 46, 182, 0, 36, 87, 167, 3, 180, 43, 42, 29, 4, 96]
def kl_B7 : List UInt8 := [46, 182, 0, 37, 87, 44, 42, 29, 4, 96, 46, 182, 0, 40, 87, 167, 3, 157, 43, 42, 29, 4, 96, 46, 42, 29, 5, 96, 46, 182, 0, 41, 87, 44, 42, 29, 4, 96, 46, 42, 29, 5, 96, 46, 182, 0, 44, 87, 167, 3, 124, 43, 42, 29, 4, 96, 46, 42, 29, 5]
def kl_B8 : List UInt8 := [96, 46, 42, 29, 6, 96, 46, 182, 0, 45, 87, 44, 42, 29, 4, 96, 46, 42, 29, 5, 96, 46, 42, 29, 6, 96, 46, 182, 0, 48, 87, 167, 3, 81, 43, 42, 29, 4, 96, 46, 182, 0, 49, 87, 44, 42, 29, 4, 96, 46, 182, 0, 52, 87, 167, 3, 58, 43, 42, 29]
def kl_B9 : List UInt8 := [4, 96, 46, 182, 0, 53, 87, 44, 42, 29, 4, 96, 46, 182, 0, 56, 87, 167, 3, 35, 43, 42, 29, 4, 96, 46, 42, 29, 5, 96, 46, 182, 0, 57, 87, 44, 42, 29, 4, 96, 46, 42, 29, 5, 96, 46, 182, 0, 60, 87, 167, 3, 2, 43, 42, 29, 4, 96, 46, 42]
def kl_B10 : List UInt8 := [29, 5, 96, 46, 182, 0, 61, 87, 44, 42, 29, 4, 96, 46, 42, 29, 5, 96, 46, 182, 0, 64, 87, 167, 2, 225, 43, 42, 29, 4, 96, 46, 182, 0, 65, 87, 44, 42, 29, 4, 96, 46, 182, 0, 68, 87, 167, 2, 202, 43, 42, 29, 4, 96, 46, 182, 0, 69, 87, 44]
def kl_B11 : List UInt8 := [42, 29, 4, 96, 46, 182, 0, 72, 87, 167, 2, 179, 43, 42, 29, 4, 96, 46, 182, 0, 73, 87, 44, 42, 29, 4, 96, 46, 182, 0, 76, 87, 167, 2, 156, 43, 182, 0, 77, 87, 44, 182, 0, 81, 87, 167, 2, 143, 43, 42, 29, 4, 96, 46, 182, 0, 82, 87, 44, 42]
def kl_B12 : List UInt8 := [29, 4, 96, 46, 182, 0, 85, 87, 167, 2, 120, 43, 42, 29, 4, 96, 46, 182, 0, 86, 87, 44, 42, 29, 4, 96, 46, 182, 0, 89, 87, 167, 2, 97, 43, 42, 29, 4, 96, 46, 182, 0, 90, 87, 44, 42, 29, 4, 96, 46, 182, 0, 93, 87, 167, 2, 74, 43, 42, 29]
def kl_B13 : List UInt8 := [4, 96, 46, 182, 0, 94, 87, 44, 42, 29, 4, 96, 46, 182, 0, 97, 87, 167, 2, 51, 43, 42, 29, 4, 96, 46, 182, 0, 98, 87, 44, 42, 29, 4, 96, 46, 182, 0, 101, 87, 167, 2, 28, 43, 42, 29, 4, 96, 46, 182, 0, 102, 87, 44, 42, 29, 4, 96, 46, 182]
def kl_B14 : List UInt8 := [0, 105, 87, 167, 2, 5, 43, 182, 0, 106, 87, 44, 182, 0, 109, 87, 167, 1, 248, 43, 42, 29, 4, 96, 46, 182, 0, 110, 87, 44, 42, 29, 4, 96, 46, 182, 0, 113, 87, 167, 1, 225, 43, 42, 29, 4, 96, 46, 182, 0, 114, 87, 44, 42, 29, 4, 96, 46, 182, 0]
def kl_B15 : List UInt8 := [117, 87, 167, 1, 202, 43, 42, 29, 4, 96, 46, 42, 29, 5, 96, 46, 42, 29, 6, 96, 46, 182, 0, 118, 87, 44, 42, 29, 4, 96, 46, 42, 29, 5, 96, 46, 42, 29, 6, 96, 46, 182, 0, 121, 87, 167, 1, 159, 43, 42, 29, 4, 96, 46, 182, 0, 122, 87, 44, 42]
def kl_B16 : List UInt8 := [29, 4, 96, 46, 182, 0, 125, 87, 167, 1, 136, 43, 42, 29, 4, 96, 46, 42, 29, 5, 96, 46, 182, 0, 126, 87, 44, 42, 29, 4, 96, 46, 42, 29, 5, 96, 46, 182, 0, 129, 87, 167, 1, 103, 43, 42, 29, 4, 96, 46, 42, 29, 5, 96, 46, 182, 0, 130, 87, 44]
def kl_B17 : List UInt8 := [42, 29, 4, 96, 46, 42, 29, 5, 96, 46, 182, 0, 133, 87, 167, 1, 70, 43, 42, 29, 4, 96, 46, 42, 29, 5, 96, 46, 182, 0, 134, 87, 44, 42, 29, 4, 96, 46, 42, 29, 5, 96, 46, 182, 0, 137, 87, 167, 1, 37, 43, 42, 29, 4, 96, 46, 42, 29, 5, 96]
def kl_B18 : List UInt8 := [46, 182, 0, 138, 87, 44, 42, 29, 4, 96, 46, 42, 29, 5, 96, 46, 182, 0, 141, 87, 167, 1, 4, 43, 42, 29, 4, 96, 46, 182, 0, 142, 87, 44, 42, 29, 4, 96, 46, 182, 0, 145, 87, 167, 0, 237, 43, 42, 29, 4, 96, 46, 42, 29, 5, 96, 46, 182, 0, 146]
def kl_B19 : List UInt8 := [87, 44, 42, 29, 4, 96, 46, 42, 29, 5, 96, 46, 182, 0, 149, 87, 167, 0, 204, 43, 42, 29, 4, 96, 46, 42, 29, 5, 96, 46, 42, 29, 6, 96, 46, 182, 0, 150, 87, 44, 42, 29, 4, 96, 46, 42, 29, 5, 96, 46, 42, 29, 6, 96, 46, 182, 0, 153, 87, 167]
def kl_B20 : List UInt8 := [0, 161, 43, 42, 29, 4, 96, 46, 42, 29, 5, 96, 46, 182, 0, 154, 87, 44, 42, 29, 4, 96, 46, 42, 29, 5, 96, 46, 182, 0, 157, 87, 167, 0, 128, 43, 182, 0, 158, 87, 44, 182, 0, 161, 87, 167, 0, 115, 43, 182, 0, 162, 88, 44, 182, 0, 166, 88, 167, 0]
def kl_B21 : List UInt8 := [102, 43, 182, 0, 167, 44, 182, 0, 170, 148, 153, 0, 90, 3, 172, 43, 42, 29, 4, 96, 46, 182, 0, 171, 87, 44, 42, 29, 4, 96, 46, 182, 0, 174, 87, 167, 0, 65, 43, 182, 0, 175, 87, 44, 182, 0, 178, 87, 167, 0, 52, 43, 182, 0, 179, 87, 44, 182, 0, 182]
def kl_B22 : List UInt8 := [87, 167, 0, 39, 43, 42, 29, 4, 96, 46, 182, 0, 183, 87, 44, 42, 29, 4, 96, 46, 182, 0, 186, 87, 167, 0, 16, 43, 182, 0, 187, 88, 44, 182, 0, 190, 88, 167, 0, 3, 132, 3, 6, 167, 250, 191, 4, 172]
def kl_R23 : List UInt8 := []
def kl_R22 : List UInt8 := kl_B22 ++ kl_R23
def kl_R21 : List UInt8 := kl_B21 ++ kl_R22
def kl_R20 : List UInt8 := kl_B20 ++ kl_R21
def kl_R19 : List UInt8 := kl_B19 ++ kl_R20
def kl_R18 : List UInt8 := kl_B18 ++ kl_R19
def kl_R17 : List UInt8 := kl_B17 ++ kl_R18
def kl_R16 : List UInt8 := kl_B16 ++ kl_R17
def kl_R15 : List UInt8 := kl_B15 ++ kl_R16
def kl_R14 : List UInt8 := kl_B14 ++ kl_R15
def kl_R13 : List UInt8 := kl_B13 ++ kl_R14
def kl_R12 : List UInt8 := kl_B12 ++ kl_R13
def kl_R11 : List UInt8 := kl_B11 ++ kl_R12
def kl_R10 : List UInt8 := kl_B10 ++ kl_R11
def kl_R9 : List UInt8 := kl_B9 ++ kl_R10
def kl_R8 : List UInt8 := kl_B8 ++ kl_R9
def kl_R7 : List UInt8 := kl_B7 ++ kl_R8
def kl_R6 : List UInt8 := kl_B6 ++ kl_R7
def kl_R5 : List UInt8 := kl_B5 ++ kl_R6
def kl_R4 : List UInt8 := kl_B4 ++ kl_R5
def kl_R3 : List UInt8 := kl_B3 ++ kl_R4
def kl_R2 : List UInt8 := kl_B2 ++ kl_R3
def kl_R1 : List UInt8 := kl_B1 ++ kl_R2
def kl_R0 : List UInt8 := kl_B0 ++ kl_R1
set_option maxRecDepth 100000 in
theorem kl_d0 : code.data.toList.drop 0 = kl_B0 ++ kl_R1 := by decide +kernel
theorem kl_d1 : code.data.toList.drop 60 = kl_B1 ++ kl_R2 := kl_step kl_d0 rfl
theorem kl_d2 : code.data.toList.drop 120 = kl_B2 ++ kl_R3 := kl_step kl_d1 rfl
theorem kl_d3 : code.data.toList.drop 180 = kl_B3 ++ kl_R4 := kl_step kl_d2 rfl
theorem kl_d4 : code.data.toList.drop 240 = kl_B4 ++ kl_R5 := kl_step kl_d3 rfl
theorem kl_d5 : code.data.toList.drop 300 = kl_B5 ++ kl_R6 := kl_step kl_d4 rfl
theorem kl_d6 : code.data.toList.drop 360 = kl_B6 ++ kl_R7 := kl_step kl_d5 rfl
theorem kl_d7 : code.data.toList.drop 420 = kl_B7 ++ kl_R8 := kl_step kl_d6 rfl
theorem kl_d8 : code.data.toList.drop 480 = kl_B8 ++ kl_R9 := kl_step kl_d7 rfl
theorem kl_d9 : code.data.toList.drop 540 = kl_B9 ++ kl_R10 := kl_step kl_d8 rfl
theorem kl_d10 : code.data.toList.drop 600 = kl_B10 ++ kl_R11 := kl_step kl_d9 rfl
theorem kl_d11 : code.data.toList.drop 660 = kl_B11 ++ kl_R12 := kl_step kl_d10 rfl
theorem kl_d12 : code.data.toList.drop 720 = kl_B12 ++ kl_R13 := kl_step kl_d11 rfl
theorem kl_d13 : code.data.toList.drop 780 = kl_B13 ++ kl_R14 := kl_step kl_d12 rfl
theorem kl_d14 : code.data.toList.drop 840 = kl_B14 ++ kl_R15 := kl_step kl_d13 rfl
theorem kl_d15 : code.data.toList.drop 900 = kl_B15 ++ kl_R16 := kl_step kl_d14 rfl
theorem kl_d16 : code.data.toList.drop 960 = kl_B16 ++ kl_R17 := kl_step kl_d15 rfl
theorem kl_d17 : code.data.toList.drop 1020 = kl_B17 ++ kl_R18 := kl_step kl_d16 rfl
theorem kl_d18 : code.data.toList.drop 1080 = kl_B18 ++ kl_R19 := kl_step kl_d17 rfl
theorem kl_d19 : code.data.toList.drop 1140 = kl_B19 ++ kl_R20 := kl_step kl_d18 rfl
theorem kl_d20 : code.data.toList.drop 1200 = kl_B20 ++ kl_R21 := kl_step kl_d19 rfl
theorem kl_d21 : code.data.toList.drop 1260 = kl_B21 ++ kl_R22 := kl_step kl_d20 rfl
theorem kl_d22 : code.data.toList.drop 1320 = kl_B22 ++ kl_R23 := kl_step kl_d21 rfl
