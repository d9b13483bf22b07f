/-! CODES: how long code is decoded, by bytes in chunks. Written by wip/whole/gen_dec.py -/
section DEC
variable {c : ByteArray} {pc b b1 b2 : Nat} {z : Int}
def rdB (c : ByteArray) (p b : Nat) : Prop := ∃ h : p < c.size, c[p].toNat = b
theorem rdB_u1 (h : rdB c pc b) : (Reader.u1 : Reader DecodeError Nat) c pc = .ok (b, pc + 1) := by
  obtain ⟨h1, h2⟩ := h
  have e : (Reader.u1 : Reader DecodeError Nat) c pc = (dite (pc < c.size) (fun h => (do set (pc + 1); Pure.pure c[pc].toNat : Reader DecodeError Nat)) (fun _ => throw (HasTruncated.truncated pc))) c pc := rfl
  rw [e, dif_pos h1, ← h2]
  rfl
theorem rdB_s1 (h : rdB c pc b) : (Reader.s1 : Reader DecodeError Int) c pc = .ok (Reader.signed 8 b, pc + 1) := by
  have e0 := rdB_u1 h
  have e : (Reader.s1 : Reader DecodeError Int) c pc = ((Reader.u1 : Reader DecodeError Nat) c pc >>= fun q => Except.ok (Reader.signed 8 q.1, q.2)) := rfl
  rw [e, e0]
  rfl
theorem rdB_u2 (h1 : rdB c pc b1) (h2 : rdB c (pc + 1) b2) : (Reader.u2 : Reader DecodeError Nat) c pc = .ok (b1 * 256 + b2, pc + 2) := by
  have e1 := rdB_u1 h1
  have e2 := rdB_u1 h2
  have e : (Reader.u2 : Reader DecodeError Nat) c pc = ((Reader.u1 : Reader DecodeError Nat) c pc >>= fun q => (Reader.u1 : Reader DecodeError Nat) c q.2 >>= fun r => Except.ok (q.1 * 256 + r.1, r.2)) := rfl
  rw [e, e1]
  show ((Reader.u1 : Reader DecodeError Nat) c (pc + 1) >>= fun r => Except.ok (b1 * 256 + r.1, r.2)) = _
  rw [e2]
  rfl
theorem rdB_s2 (h1 : rdB c pc b1) (h2 : rdB c (pc + 1) b2) : (Reader.s2 : Reader DecodeError Int) c pc = .ok (Reader.signed 16 (b1 * 256 + b2), pc + 2) := by
  have e0 := rdB_u2 h1 h2
  have e : (Reader.s2 : Reader DecodeError Int) c pc = ((Reader.u2 : Reader DecodeError Nat) c pc >>= fun q => Except.ok (Reader.signed 16 q.1, q.2)) := rfl
  rw [e, e0]
  rfl
theorem rdB_list {L : List UInt8} {p : Nat} (hL : c.data.toList = L) (h : (L[p]?).map UInt8.toNat = some b) : rdB c p b := by
  obtain ⟨x, hx, hb⟩ := Option.map_eq_some_iff.mp h
  rw [← hL] at hx
  obtain ⟨hlt, hx⟩ := List.getElem?_eq_some_iff.mp hx
  refine ⟨hlt, ?_⟩
  rw [← hb, ← hx]
  rfl
theorem gA {A C : List UInt8} {n i : Nat} (hn : A.length = n) : (A ++ C)[n + i]? = C[i]? := by
  rw [List.getElem?_append_right (by omega)]
  congr 1
  omega
theorem gB {A C : List UInt8} {i : Nat} (hi : i < A.length) : (A ++ C)[i]? = A[i]? := List.getElem?_append_left hi
theorem dz_3 (h0 : rdB c pc 3) : decode c pc = .ok (.iconst 0, 1) := by
  have e0 := rdB_u1 h0
  have e : decode c pc = .ok (.iconst 0, pc + 1 - pc) := by
    show ((Reader.u1 : Reader DecodeError Nat) c pc >>= _) >>= _ = _
    rw [e0]
    rfl
  rw [e, Nat.add_sub_cancel_left]
theorem dz_4 (h0 : rdB c pc 4) : decode c pc = .ok (.iconst 1, 1) := by
  have e0 := rdB_u1 h0
  have e : decode c pc = .ok (.iconst 1, pc + 1 - pc) := by
    show ((Reader.u1 : Reader DecodeError Nat) c pc >>= _) >>= _ = _
    rw [e0]
    rfl
  rw [e, Nat.add_sub_cancel_left]
theorem dz_5 (h0 : rdB c pc 5) : decode c pc = .ok (.iconst 2, 1) := by
  have e0 := rdB_u1 h0
  have e : decode c pc = .ok (.iconst 2, pc + 1 - pc) := by
    show ((Reader.u1 : Reader DecodeError Nat) c pc >>= _) >>= _ = _
    rw [e0]
    rfl
  rw [e, Nat.add_sub_cancel_left]
theorem dz_6 (h0 : rdB c pc 6) : decode c pc = .ok (.iconst 3, 1) := by
  have e0 := rdB_u1 h0
  have e : decode c pc = .ok (.iconst 3, pc + 1 - pc) := by
    show ((Reader.u1 : Reader DecodeError Nat) c pc >>= _) >>= _ = _
    rw [e0]
    rfl
  rw [e, Nat.add_sub_cancel_left]
theorem dz_7 (h0 : rdB c pc 7) : decode c pc = .ok (.iconst 4, 1) := by
  have e0 := rdB_u1 h0
  have e : decode c pc = .ok (.iconst 4, pc + 1 - pc) := by
    show ((Reader.u1 : Reader DecodeError Nat) c pc >>= _) >>= _ = _
    rw [e0]
    rfl
  rw [e, Nat.add_sub_cancel_left]
theorem dz_8 (h0 : rdB c pc 8) : decode c pc = .ok (.iconst 5, 1) := by
  have e0 := rdB_u1 h0
  have e : decode c pc = .ok (.iconst 5, pc + 1 - pc) := by
    show ((Reader.u1 : Reader DecodeError Nat) c pc >>= _) >>= _ = _
    rw [e0]
    rfl
  rw [e, Nat.add_sub_cancel_left]
theorem dz_9 (h0 : rdB c pc 9) : decode c pc = .ok (.lconst 0, 1) := by
  have e0 := rdB_u1 h0
  have e : decode c pc = .ok (.lconst 0, pc + 1 - pc) := by
    show ((Reader.u1 : Reader DecodeError Nat) c pc >>= _) >>= _ = _
    rw [e0]
    rfl
  rw [e, Nat.add_sub_cancel_left]
theorem dz_10 (h0 : rdB c pc 10) : decode c pc = .ok (.lconst 1, 1) := by
  have e0 := rdB_u1 h0
  have e : decode c pc = .ok (.lconst 1, pc + 1 - pc) := by
    show ((Reader.u1 : Reader DecodeError Nat) c pc >>= _) >>= _ = _
    rw [e0]
    rfl
  rw [e, Nat.add_sub_cancel_left]
theorem dz_16 (h0 : rdB c pc 16) (h1 : rdB c (pc + 1) b) (hz : Reader.signed 8 b = z) : decode c pc = .ok (.bipush z, 2) := by
  subst hz
  have e0 := rdB_u1 h0
  have e1 := rdB_s1 h1
  have e : decode c pc = .ok (.bipush (Reader.signed 8 b), pc + 2 - pc) := by
    show ((Reader.u1 : Reader DecodeError Nat) c pc >>= _) >>= _ = _
    rw [e0]
    show ((Reader.s1 : Reader DecodeError Int) c (pc + 1) >>= _) >>= _ = _
    rw [e1]
    rfl
  rw [e, Nat.add_sub_cancel_left]
theorem dz_20 (h0 : rdB c pc 20) (h1 : rdB c (pc + 1) b1) (h2 : rdB c (pc + 2) b2) (hz : b1 * 256 + b2 = b) : decode c pc = .ok (.ldc2_w b, 3) := by
  subst hz
  have e0 := rdB_u1 h0
  have e1 := rdB_u2 h1 h2
  have e : decode c pc = .ok (.ldc2_w (b1 * 256 + b2), pc + 3 - pc) := by
    show ((Reader.u1 : Reader DecodeError Nat) c pc >>= _) >>= _ = _
    rw [e0]
    show ((Reader.u2 : Reader DecodeError Nat) c (pc + 1) >>= _) >>= _ = _
    rw [e1]
    rfl
  rw [e, Nat.add_sub_cancel_left]
theorem dz_21 (h0 : rdB c pc 21) (h1 : rdB c (pc + 1) b) : decode c pc = .ok (.iload b, 2) := by
  have e0 := rdB_u1 h0
  have e1 := rdB_u1 h1
  have e : decode c pc = .ok (.iload b, pc + 2 - pc) := by
    show ((Reader.u1 : Reader DecodeError Nat) c pc >>= _) >>= _ = _
    rw [e0]
    show ((Reader.u1 : Reader DecodeError Nat) c (pc + 1) >>= _) >>= _ = _
    rw [e1]
    rfl
  rw [e, Nat.add_sub_cancel_left]
theorem dz_22 (h0 : rdB c pc 22) (h1 : rdB c (pc + 1) b) : decode c pc = .ok (.lload b, 2) := by
  have e0 := rdB_u1 h0
  have e1 := rdB_u1 h1
  have e : decode c pc = .ok (.lload b, pc + 2 - pc) := by
    show ((Reader.u1 : Reader DecodeError Nat) c pc >>= _) >>= _ = _
    rw [e0]
    show ((Reader.u1 : Reader DecodeError Nat) c (pc + 1) >>= _) >>= _ = _
    rw [e1]
    rfl
  rw [e, Nat.add_sub_cancel_left]
theorem dz_42 (h0 : rdB c pc 42) : decode c pc = .ok (.aload_n 0, 1) := by
  have e0 := rdB_u1 h0
  have e : decode c pc = .ok (.aload_n 0, pc + 1 - pc) := by
    show ((Reader.u1 : Reader DecodeError Nat) c pc >>= _) >>= _ = _
    rw [e0]
    rfl
  rw [e, Nat.add_sub_cancel_left]
theorem dz_43 (h0 : rdB c pc 43) : decode c pc = .ok (.aload_n 1, 1) := by
  have e0 := rdB_u1 h0
  have e : decode c pc = .ok (.aload_n 1, pc + 1 - pc) := by
    show ((Reader.u1 : Reader DecodeError Nat) c pc >>= _) >>= _ = _
    rw [e0]
    rfl
  rw [e, Nat.add_sub_cancel_left]
theorem dz_44 (h0 : rdB c pc 44) : decode c pc = .ok (.aload_n 2, 1) := by
  have e0 := rdB_u1 h0
  have e : decode c pc = .ok (.aload_n 2, pc + 1 - pc) := by
    show ((Reader.u1 : Reader DecodeError Nat) c pc >>= _) >>= _ = _
    rw [e0]
    rfl
  rw [e, Nat.add_sub_cancel_left]
theorem dz_45 (h0 : rdB c pc 45) : decode c pc = .ok (.aload_n 3, 1) := by
  have e0 := rdB_u1 h0
  have e : decode c pc = .ok (.aload_n 3, pc + 1 - pc) := by
    show ((Reader.u1 : Reader DecodeError Nat) c pc >>= _) >>= _ = _
    rw [e0]
    rfl
  rw [e, Nat.add_sub_cancel_left]
theorem dz_46 (h0 : rdB c pc 46) : decode c pc = .ok (.iaload, 1) := by
  have e0 := rdB_u1 h0
  have e : decode c pc = .ok (.iaload, pc + 1 - pc) := by
    show ((Reader.u1 : Reader DecodeError Nat) c pc >>= _) >>= _ = _
    rw [e0]
    rfl
  rw [e, Nat.add_sub_cancel_left]
theorem dz_47 (h0 : rdB c pc 47) : decode c pc = .ok (.laload, 1) := by
  have e0 := rdB_u1 h0
  have e : decode c pc = .ok (.laload, pc + 1 - pc) := by
    show ((Reader.u1 : Reader DecodeError Nat) c pc >>= _) >>= _ = _
    rw [e0]
    rfl
  rw [e, Nat.add_sub_cancel_left]
theorem dz_54 (h0 : rdB c pc 54) (h1 : rdB c (pc + 1) b) : decode c pc = .ok (.istore b, 2) := by
  have e0 := rdB_u1 h0
  have e1 := rdB_u1 h1
  have e : decode c pc = .ok (.istore b, pc + 2 - pc) := by
    show ((Reader.u1 : Reader DecodeError Nat) c pc >>= _) >>= _ = _
    rw [e0]
    show ((Reader.u1 : Reader DecodeError Nat) c (pc + 1) >>= _) >>= _ = _
    rw [e1]
    rfl
  rw [e, Nat.add_sub_cancel_left]
theorem dz_55 (h0 : rdB c pc 55) (h1 : rdB c (pc + 1) b) : decode c pc = .ok (.lstore b, 2) := by
  have e0 := rdB_u1 h0
  have e1 := rdB_u1 h1
  have e : decode c pc = .ok (.lstore b, pc + 2 - pc) := by
    show ((Reader.u1 : Reader DecodeError Nat) c pc >>= _) >>= _ = _
    rw [e0]
    show ((Reader.u1 : Reader DecodeError Nat) c (pc + 1) >>= _) >>= _ = _
    rw [e1]
    rfl
  rw [e, Nat.add_sub_cancel_left]
theorem dz_76 (h0 : rdB c pc 76) : decode c pc = .ok (.astore_n 1, 1) := by
  have e0 := rdB_u1 h0
  have e : decode c pc = .ok (.astore_n 1, pc + 1 - pc) := by
    show ((Reader.u1 : Reader DecodeError Nat) c pc >>= _) >>= _ = _
    rw [e0]
    rfl
  rw [e, Nat.add_sub_cancel_left]
theorem dz_77 (h0 : rdB c pc 77) : decode c pc = .ok (.astore_n 2, 1) := by
  have e0 := rdB_u1 h0
  have e : decode c pc = .ok (.astore_n 2, pc + 1 - pc) := by
    show ((Reader.u1 : Reader DecodeError Nat) c pc >>= _) >>= _ = _
    rw [e0]
    rfl
  rw [e, Nat.add_sub_cancel_left]
theorem dz_78 (h0 : rdB c pc 78) : decode c pc = .ok (.astore_n 3, 1) := by
  have e0 := rdB_u1 h0
  have e : decode c pc = .ok (.astore_n 3, pc + 1 - pc) := by
    show ((Reader.u1 : Reader DecodeError Nat) c pc >>= _) >>= _ = _
    rw [e0]
    rfl
  rw [e, Nat.add_sub_cancel_left]
theorem dz_89 (h0 : rdB c pc 89) : decode c pc = .ok (.dup, 1) := by
  have e0 := rdB_u1 h0
  have e : decode c pc = .ok (.dup, pc + 1 - pc) := by
    show ((Reader.u1 : Reader DecodeError Nat) c pc >>= _) >>= _ = _
    rw [e0]
    rfl
  rw [e, Nat.add_sub_cancel_left]
theorem dz_96 (h0 : rdB c pc 96) : decode c pc = .ok (.iadd, 1) := by
  have e0 := rdB_u1 h0
  have e : decode c pc = .ok (.iadd, pc + 1 - pc) := by
    show ((Reader.u1 : Reader DecodeError Nat) c pc >>= _) >>= _ = _
    rw [e0]
    rfl
  rw [e, Nat.add_sub_cancel_left]
theorem dz_100 (h0 : rdB c pc 100) : decode c pc = .ok (.isub, 1) := by
  have e0 := rdB_u1 h0
  have e : decode c pc = .ok (.isub, pc + 1 - pc) := by
    show ((Reader.u1 : Reader DecodeError Nat) c pc >>= _) >>= _ = _
    rw [e0]
    rfl
  rw [e, Nat.add_sub_cancel_left]
theorem dz_121 (h0 : rdB c pc 121) : decode c pc = .ok (.lshl, 1) := by
  have e0 := rdB_u1 h0
  have e : decode c pc = .ok (.lshl, pc + 1 - pc) := by
    show ((Reader.u1 : Reader DecodeError Nat) c pc >>= _) >>= _ = _
    rw [e0]
    rfl
  rw [e, Nat.add_sub_cancel_left]
theorem dz_126 (h0 : rdB c pc 126) : decode c pc = .ok (.iand, 1) := by
  have e0 := rdB_u1 h0
  have e : decode c pc = .ok (.iand, pc + 1 - pc) := by
    show ((Reader.u1 : Reader DecodeError Nat) c pc >>= _) >>= _ = _
    rw [e0]
    rfl
  rw [e, Nat.add_sub_cancel_left]
theorem dz_127 (h0 : rdB c pc 127) : decode c pc = .ok (.land, 1) := by
  have e0 := rdB_u1 h0
  have e : decode c pc = .ok (.land, pc + 1 - pc) := by
    show ((Reader.u1 : Reader DecodeError Nat) c pc >>= _) >>= _ = _
    rw [e0]
    rfl
  rw [e, Nat.add_sub_cancel_left]
theorem dz_129 (h0 : rdB c pc 129) : decode c pc = .ok (.lor, 1) := by
  have e0 := rdB_u1 h0
  have e : decode c pc = .ok (.lor, pc + 1 - pc) := by
    show ((Reader.u1 : Reader DecodeError Nat) c pc >>= _) >>= _ = _
    rw [e0]
    rfl
  rw [e, Nat.add_sub_cancel_left]
theorem dz_132 (h0 : rdB c pc 132) (h1 : rdB c (pc + 1) b1) (h2 : rdB c (pc + 2) b2) (hz : Reader.signed 8 b2 = z) : decode c pc = .ok (.iinc b1 z, 3) := by
  subst hz
  have e0 := rdB_u1 h0
  have e1 := rdB_u1 h1
  have e2 := rdB_s1 h2
  have e : decode c pc = .ok (.iinc b1 (Reader.signed 8 b2), pc + 3 - pc) := by
    show ((Reader.u1 : Reader DecodeError Nat) c pc >>= _) >>= _ = _
    rw [e0]
    show ((Reader.u1 : Reader DecodeError Nat) c (pc + 1) >>= _) >>= _ = _
    rw [e1]
    show ((Reader.s1 : Reader DecodeError Int) c (pc + 2) >>= _) >>= _ = _
    rw [e2]
    rfl
  rw [e, Nat.add_sub_cancel_left]
theorem dz_133 (h0 : rdB c pc 133) : decode c pc = .ok (.i2l, 1) := by
  have e0 := rdB_u1 h0
  have e : decode c pc = .ok (.i2l, pc + 1 - pc) := by
    show ((Reader.u1 : Reader DecodeError Nat) c pc >>= _) >>= _ = _
    rw [e0]
    rfl
  rw [e, Nat.add_sub_cancel_left]
theorem dz_148 (h0 : rdB c pc 148) : decode c pc = .ok (.lcmp, 1) := by
  have e0 := rdB_u1 h0
  have e : decode c pc = .ok (.lcmp, pc + 1 - pc) := by
    show ((Reader.u1 : Reader DecodeError Nat) c pc >>= _) >>= _ = _
    rw [e0]
    rfl
  rw [e, Nat.add_sub_cancel_left]
theorem dz_153 (h0 : rdB c pc 153) (h1 : rdB c (pc + 1) b1) (h2 : rdB c (pc + 2) b2) (hz : Reader.signed 16 (b1 * 256 + b2) = z) : decode c pc = .ok (.ifCond .eq z, 3) := by
  subst hz
  have e0 := rdB_u1 h0
  have e1 := rdB_s2 h1 h2
  have e : decode c pc = .ok (.ifCond .eq (Reader.signed 16 (b1 * 256 + b2)), pc + 3 - pc) := by
    show ((Reader.u1 : Reader DecodeError Nat) c pc >>= _) >>= _ = _
    rw [e0]
    show ((Reader.s2 : Reader DecodeError Int) c (pc + 1) >>= _) >>= _ = _
    rw [e1]
    rfl
  rw [e, Nat.add_sub_cancel_left]
theorem dz_154 (h0 : rdB c pc 154) (h1 : rdB c (pc + 1) b1) (h2 : rdB c (pc + 2) b2) (hz : Reader.signed 16 (b1 * 256 + b2) = z) : decode c pc = .ok (.ifCond .ne z, 3) := by
  subst hz
  have e0 := rdB_u1 h0
  have e1 := rdB_s2 h1 h2
  have e : decode c pc = .ok (.ifCond .ne (Reader.signed 16 (b1 * 256 + b2)), pc + 3 - pc) := by
    show ((Reader.u1 : Reader DecodeError Nat) c pc >>= _) >>= _ = _
    rw [e0]
    show ((Reader.s2 : Reader DecodeError Int) c (pc + 1) >>= _) >>= _ = _
    rw [e1]
    rfl
  rw [e, Nat.add_sub_cancel_left]
theorem dz_159 (h0 : rdB c pc 159) (h1 : rdB c (pc + 1) b1) (h2 : rdB c (pc + 2) b2) (hz : Reader.signed 16 (b1 * 256 + b2) = z) : decode c pc = .ok (.if_icmp .eq z, 3) := by
  subst hz
  have e0 := rdB_u1 h0
  have e1 := rdB_s2 h1 h2
  have e : decode c pc = .ok (.if_icmp .eq (Reader.signed 16 (b1 * 256 + b2)), pc + 3 - pc) := by
    show ((Reader.u1 : Reader DecodeError Nat) c pc >>= _) >>= _ = _
    rw [e0]
    show ((Reader.s2 : Reader DecodeError Int) c (pc + 1) >>= _) >>= _ = _
    rw [e1]
    rfl
  rw [e, Nat.add_sub_cancel_left]
theorem dz_163 (h0 : rdB c pc 163) (h1 : rdB c (pc + 1) b1) (h2 : rdB c (pc + 2) b2) (hz : Reader.signed 16 (b1 * 256 + b2) = z) : decode c pc = .ok (.if_icmp .gt z, 3) := by
  subst hz
  have e0 := rdB_u1 h0
  have e1 := rdB_s2 h1 h2
  have e : decode c pc = .ok (.if_icmp .gt (Reader.signed 16 (b1 * 256 + b2)), pc + 3 - pc) := by
    show ((Reader.u1 : Reader DecodeError Nat) c pc >>= _) >>= _ = _
    rw [e0]
    show ((Reader.s2 : Reader DecodeError Int) c (pc + 1) >>= _) >>= _ = _
    rw [e1]
    rfl
  rw [e, Nat.add_sub_cancel_left]
theorem dz_167 (h0 : rdB c pc 167) (h1 : rdB c (pc + 1) b1) (h2 : rdB c (pc + 2) b2) (hz : Reader.signed 16 (b1 * 256 + b2) = z) : decode c pc = .ok (.goto z, 3) := by
  subst hz
  have e0 := rdB_u1 h0
  have e1 := rdB_s2 h1 h2
  have e : decode c pc = .ok (.goto (Reader.signed 16 (b1 * 256 + b2)), pc + 3 - pc) := by
    show ((Reader.u1 : Reader DecodeError Nat) c pc >>= _) >>= _ = _
    rw [e0]
    show ((Reader.s2 : Reader DecodeError Int) c (pc + 1) >>= _) >>= _ = _
    rw [e1]
    rfl
  rw [e, Nat.add_sub_cancel_left]
theorem dz_172 (h0 : rdB c pc 172) : decode c pc = .ok (.ireturn, 1) := by
  have e0 := rdB_u1 h0
  have e : decode c pc = .ok (.ireturn, pc + 1 - pc) := by
    show ((Reader.u1 : Reader DecodeError Nat) c pc >>= _) >>= _ = _
    rw [e0]
    rfl
  rw [e, Nat.add_sub_cancel_left]
theorem dz_182 (h0 : rdB c pc 182) (h1 : rdB c (pc + 1) b1) (h2 : rdB c (pc + 2) b2) (hz : b1 * 256 + b2 = b) : decode c pc = .ok (.invokevirtual b, 3) := by
  subst hz
  have e0 := rdB_u1 h0
  have e1 := rdB_u2 h1 h2
  have e : decode c pc = .ok (.invokevirtual (b1 * 256 + b2), pc + 3 - pc) := by
    show ((Reader.u1 : Reader DecodeError Nat) c pc >>= _) >>= _ = _
    rw [e0]
    show ((Reader.u2 : Reader DecodeError Nat) c (pc + 1) >>= _) >>= _ = _
    rw [e1]
    rfl
  rw [e, Nat.add_sub_cancel_left]
theorem dz_183 (h0 : rdB c pc 183) (h1 : rdB c (pc + 1) b1) (h2 : rdB c (pc + 2) b2) (hz : b1 * 256 + b2 = b) : decode c pc = .ok (.invokespecial b, 3) := by
  subst hz
  have e0 := rdB_u1 h0
  have e1 := rdB_u2 h1 h2
  have e : decode c pc = .ok (.invokespecial (b1 * 256 + b2), pc + 3 - pc) := by
    show ((Reader.u1 : Reader DecodeError Nat) c pc >>= _) >>= _ = _
    rw [e0]
    show ((Reader.u2 : Reader DecodeError Nat) c (pc + 1) >>= _) >>= _ = _
    rw [e1]
    rfl
  rw [e, Nat.add_sub_cancel_left]
theorem dz_184 (h0 : rdB c pc 184) (h1 : rdB c (pc + 1) b1) (h2 : rdB c (pc + 2) b2) (hz : b1 * 256 + b2 = b) : decode c pc = .ok (.invokestatic b, 3) := by
  subst hz
  have e0 := rdB_u1 h0
  have e1 := rdB_u2 h1 h2
  have e : decode c pc = .ok (.invokestatic (b1 * 256 + b2), pc + 3 - pc) := by
    show ((Reader.u1 : Reader DecodeError Nat) c pc >>= _) >>= _ = _
    rw [e0]
    show ((Reader.u2 : Reader DecodeError Nat) c (pc + 1) >>= _) >>= _ = _
    rw [e1]
    rfl
  rw [e, Nat.add_sub_cancel_left]
theorem dz_187 (h0 : rdB c pc 187) (h1 : rdB c (pc + 1) b1) (h2 : rdB c (pc + 2) b2) (hz : b1 * 256 + b2 = b) : decode c pc = .ok (.new b, 3) := by
  subst hz
  have e0 := rdB_u1 h0
  have e1 := rdB_u2 h1 h2
  have e : decode c pc = .ok (.new (b1 * 256 + b2), pc + 3 - pc) := by
    show ((Reader.u1 : Reader DecodeError Nat) c pc >>= _) >>= _ = _
    rw [e0]
    show ((Reader.u2 : Reader DecodeError Nat) c (pc + 1) >>= _) >>= _ = _
    rw [e1]
    rfl
  rw [e, Nat.add_sub_cancel_left]
theorem dz_190 (h0 : rdB c pc 190) : decode c pc = .ok (.arraylength, 1) := by
  have e0 := rdB_u1 h0
  have e : decode c pc = .ok (.arraylength, pc + 1 - pc) := by
    show ((Reader.u1 : Reader DecodeError Nat) c pc >>= _) >>= _ = _
    rw [e0]
    rfl
  rw [e, Nat.add_sub_cancel_left]
def lb_0 : List UInt8 := [187, 0, 8, 89, 183, 0, 176, 76, 187, 0, 177, 89, 183, 0, 179, 77, 4, 188, 11, 78, 3, 54, 4, 21, 4, 42, 190, 16, 6, 100, 163, 14, 132, 42, 21, 4, 46, 16, 63, 126, 170, 0, 0, 0, 0, 0, 14, 116, 0, 0, 0, 0, 0, 0, 0, 56, 0, 0, 0, 244, 0, 0, 1, 61, 0, 0, 1, 117, 0, 0, 1, 142, 0, 0, 1, 210, 0, 0, 2, 22, 0, 0, 2, 90, 0, 0, 2, 158, 0, 0, 2, 214, 0, 0, 2, 251, 0, 0, 3, 51]
def lb_1 : List UInt8 := [0, 0, 3, 64, 0, 0, 3, 120, 0, 0, 3, 188, 0, 0, 3, 244, 0, 0, 4, 56, 0, 0, 4, 112, 0, 0, 4, 180, 0, 0, 5, 4, 0, 0, 5, 72, 0, 0, 5, 140, 0, 0, 5, 224, 0, 0, 5, 237, 0, 0, 6, 49, 0, 0, 6, 117, 0, 0, 6, 173, 0, 0, 6, 241, 0, 0, 7, 53, 0, 0, 7, 66, 0, 0, 7, 134, 0, 0, 7, 202, 0, 0, 8, 14, 0, 0, 8, 82, 0, 0, 8, 150, 0, 0, 8, 230, 0, 0, 9, 42]
def lb_2 : List UInt8 := [0, 0, 9, 98, 0, 0, 9, 166, 0, 0, 9, 222, 0, 0, 10, 21, 0, 0, 10, 133, 0, 0, 10, 146, 0, 0, 10, 230, 0, 0, 11, 41, 0, 0, 11, 137, 0, 0, 11, 205, 0, 0, 12, 17, 0, 0, 12, 73, 0, 0, 12, 129, 0, 0, 12, 192, 0, 0, 12, 248, 0, 0, 13, 48, 0, 0, 13, 104, 0, 0, 13, 164, 0, 0, 14, 19, 0, 0, 14, 55, 0, 0, 14, 91, 43, 42, 21, 4, 4, 96, 46, 42, 21, 4, 5, 96, 46, 42, 21, 4]
def lb_3 : List UInt8 := [6, 96, 46, 42, 21, 4, 7, 96, 46, 42, 21, 4, 8, 96, 46, 182, 0, 180, 44, 42, 21, 4, 4, 96, 46, 42, 21, 4, 5, 96, 46, 42, 21, 4, 6, 96, 46, 42, 21, 4, 7, 96, 46, 42, 21, 4, 8, 96, 46, 182, 0, 184, 159, 13, 60, 3, 172, 43, 42, 21, 4, 4, 96, 46, 45, 184, 0, 185, 54, 5, 44, 42, 21, 4, 4, 96, 46, 182, 0, 190, 54, 6, 44, 182, 0, 191, 21, 5, 159, 0, 5, 3, 172, 21, 5, 154, 0, 15, 45, 3]
def lb_4 : List UInt8 := [47, 21, 6, 133, 148, 153, 0, 5, 3, 172, 167, 13, 2, 43, 42, 21, 4, 4, 96, 46, 182, 0, 195, 44, 42, 21, 4, 4, 96, 46, 182, 0, 198, 159, 12, 235, 3, 172, 43, 42, 21, 4, 4, 96, 46, 42, 21, 4, 5, 96, 46, 45, 184, 0, 199, 54, 5, 44, 42, 21, 4, 4, 96, 46, 42, 21, 4, 5, 96, 46, 182, 0, 202, 54, 6, 44, 182, 0, 191, 21, 5, 159, 0, 5, 3, 172, 21, 5, 154, 0, 15, 45, 3, 47, 21, 6, 133, 148, 153, 0]
def lb_5 : List UInt8 := [5, 3, 172, 167, 12, 165, 43, 42, 21, 4, 4, 96, 46, 42, 21, 4, 5, 96, 46, 45, 184, 0, 203, 54, 5, 44, 42, 21, 4, 4, 96, 46, 42, 21, 4, 5, 96, 46, 182, 0, 205, 54, 6, 44, 182, 0, 191, 21, 5, 159, 0, 5, 3, 172, 21, 5, 154, 0, 15, 45, 3, 47, 21, 6, 133, 148, 153, 0, 5, 3, 172, 167, 12, 97, 43, 42, 21, 4, 4, 96, 46, 42, 21, 4, 5, 96, 46, 45, 184, 0, 206, 54, 5, 44, 42, 21, 4, 4, 96, 46]
def lb_6 : List UInt8 := [42, 21, 4, 5, 96, 46, 182, 0, 208, 54, 6, 44, 182, 0, 191, 21, 5, 159, 0, 5, 3, 172, 21, 5, 154, 0, 15, 45, 3, 47, 21, 6, 133, 148, 153, 0, 5, 3, 172, 167, 12, 29, 43, 42, 21, 4, 4, 96, 46, 42, 21, 4, 5, 96, 46, 45, 184, 0, 209, 54, 5, 44, 42, 21, 4, 4, 96, 46, 42, 21, 4, 5, 96, 46, 182, 0, 211, 54, 6, 44, 182, 0, 191, 21, 5, 159, 0, 5, 3, 172, 21, 5, 154, 0, 15, 45, 3, 47, 21, 6]
def lb_7 : List UInt8 := [133, 148, 153, 0, 5, 3, 172, 167, 11, 217, 43, 42, 21, 4, 4, 96, 46, 45, 184, 0, 212, 54, 5, 44, 42, 21, 4, 4, 96, 46, 182, 0, 214, 54, 6, 44, 182, 0, 191, 21, 5, 159, 0, 5, 3, 172, 21, 5, 154, 0, 15, 45, 3, 47, 21, 6, 133, 148, 153, 0, 5, 3, 172, 167, 11, 161, 43, 42, 21, 4, 4, 96, 46, 42, 21, 4, 5, 96, 46, 182, 0, 215, 44, 42, 21, 4, 4, 96, 46, 42, 21, 4, 5, 96, 46, 182, 0, 218, 159, 11]
def lb_8 : List UInt8 := [126, 3, 172, 43, 42, 21, 4, 4, 96, 46, 45, 184, 0, 219, 54, 5, 44, 42, 21, 4, 4, 96, 46, 182, 0, 221, 54, 6, 44, 182, 0, 191, 21, 5, 159, 0, 5, 3, 172, 21, 5, 154, 0, 15, 45, 3, 47, 21, 6, 133, 148, 153, 0, 5, 3, 172, 167, 11, 68, 43, 182, 0, 222, 44, 182, 0, 225, 159, 11, 57, 3, 172, 43, 42, 21, 4, 4, 96, 46, 45, 184, 0, 226, 54, 5, 44, 42, 21, 4, 4, 96, 46, 182, 0, 228, 54, 6, 44, 182, 0]
def lb_9 : List UInt8 := [191, 21, 5, 159, 0, 5, 3, 172, 21, 5, 154, 0, 15, 45, 3, 47, 21, 6, 133, 148, 153, 0, 5, 3, 172, 167, 10, 255, 43, 42, 21, 4, 4, 96, 46, 42, 21, 4, 5, 96, 46, 45, 184, 0, 229, 54, 5, 44, 42, 21, 4, 4, 96, 46, 42, 21, 4, 5, 96, 46, 182, 0, 231, 54, 6, 44, 182, 0, 191, 21, 5, 159, 0, 5, 3, 172, 21, 5, 154, 0, 15, 45, 3, 47, 21, 6, 133, 148, 153, 0, 5, 3, 172, 167, 10, 187, 43, 42, 21, 4]
def lb_10 : List UInt8 := [4, 96, 46, 45, 184, 0, 232, 54, 5, 44, 42, 21, 4, 4, 96, 46, 182, 0, 234, 54, 6, 44, 182, 0, 191, 21, 5, 159, 0, 5, 3, 172, 21, 5, 154, 0, 15, 45, 3, 47, 21, 6, 133, 148, 153, 0, 5, 3, 172, 167, 10, 131, 43, 42, 21, 4, 4, 96, 46, 42, 21, 4, 5, 96, 46, 45, 184, 0, 235, 54, 5, 44, 42, 21, 4, 4, 96, 46, 42, 21, 4, 5, 96, 46, 182, 0, 237, 54, 6, 44, 182, 0, 191, 21, 5, 159, 0, 5, 3, 172]
def lb_11 : List UInt8 := [21, 5, 154, 0, 15, 45, 3, 47, 21, 6, 133, 148, 153, 0, 5, 3, 172, 167, 10, 63, 43, 42, 21, 4, 4, 96, 46, 45, 184, 0, 238, 54, 5, 44, 42, 21, 4, 4, 96, 46, 182, 0, 240, 54, 6, 44, 182, 0, 191, 21, 5, 159, 0, 5, 3, 172, 21, 5, 154, 0, 15, 45, 3, 47, 21, 6, 133, 148, 153, 0, 5, 3, 172, 167, 10, 7, 43, 42, 21, 4, 4, 96, 46, 42, 21, 4, 5, 96, 46, 45, 184, 0, 241, 54, 5, 44, 42, 21, 4, 4]
def lb_12 : List UInt8 := [96, 46, 42, 21, 4, 5, 96, 46, 182, 0, 243, 54, 6, 44, 182, 0, 191, 21, 5, 159, 0, 5, 3, 172, 21, 5, 154, 0, 15, 45, 3, 47, 21, 6, 133, 148, 153, 0, 5, 3, 172, 167, 9, 195, 43, 42, 21, 4, 4, 96, 46, 42, 21, 4, 5, 96, 46, 42, 21, 4, 6, 96, 46, 45, 184, 0, 244, 54, 5, 44, 42, 21, 4, 4, 96, 46, 42, 21, 4, 5, 96, 46, 42, 21, 4, 6, 96, 46, 182, 0, 247, 54, 6, 44, 182, 0, 191, 21, 5, 159]
def lb_13 : List UInt8 := [0, 5, 3, 172, 21, 5, 154, 0, 15, 45, 3, 47, 21, 6, 133, 148, 153, 0, 5, 3, 172, 167, 9, 115, 43, 42, 21, 4, 4, 96, 46, 42, 21, 4, 5, 96, 46, 45, 184, 0, 248, 54, 5, 44, 42, 21, 4, 4, 96, 46, 42, 21, 4, 5, 96, 46, 182, 0, 250, 54, 6, 44, 182, 0, 191, 21, 5, 159, 0, 5, 3, 172, 21, 5, 154, 0, 15, 45, 3, 47, 21, 6, 133, 148, 153, 0, 5, 3, 172, 167, 9, 47, 43, 42, 21, 4, 4, 96, 46, 42]
def lb_14 : List UInt8 := [21, 4, 5, 96, 46, 45, 184, 0, 251, 54, 5, 44, 42, 21, 4, 4, 96, 46, 42, 21, 4, 5, 96, 46, 182, 0, 253, 54, 6, 44, 182, 0, 191, 21, 5, 159, 0, 5, 3, 172, 21, 5, 154, 0, 15, 45, 3, 47, 21, 6, 133, 148, 153, 0, 5, 3, 172, 167, 8, 235, 43, 42, 21, 4, 4, 96, 46, 42, 21, 4, 5, 96, 46, 153, 0, 7, 4, 167, 0, 4, 3, 45, 184, 0, 254, 54, 5, 44, 42, 21, 4, 4, 96, 46, 42, 21, 4, 5, 96, 46]
def lb_15 : List UInt8 := [153, 0, 7, 4, 167, 0, 4, 3, 182, 1, 1, 54, 6, 44, 182, 0, 191, 21, 5, 159, 0, 5, 3, 172, 21, 5, 154, 0, 15, 45, 3, 47, 21, 6, 133, 148, 153, 0, 5, 3, 172, 167, 8, 151, 43, 182, 1, 2, 44, 182, 1, 5, 159, 8, 140, 3, 172, 43, 42, 21, 4, 4, 96, 46, 42, 21, 4, 5, 96, 46, 45, 184, 1, 6, 54, 5, 44, 42, 21, 4, 4, 96, 46, 42, 21, 4, 5, 96, 46, 182, 1, 8, 54, 6, 44, 182, 0, 191, 21, 5]
def lb_16 : List UInt8 := [159, 0, 5, 3, 172, 21, 5, 154, 0, 15, 45, 3, 47, 21, 6, 133, 148, 153, 0, 5, 3, 172, 167, 8, 70, 43, 42, 21, 4, 4, 96, 46, 42, 21, 4, 5, 96, 46, 45, 184, 1, 9, 54, 5, 44, 42, 21, 4, 4, 96, 46, 42, 21, 4, 5, 96, 46, 182, 1, 11, 54, 6, 44, 182, 0, 191, 21, 5, 159, 0, 5, 3, 172, 21, 5, 154, 0, 15, 45, 3, 47, 21, 6, 133, 148, 153, 0, 5, 3, 172, 167, 8, 2, 43, 42, 21, 4, 4, 96, 46]
def lb_17 : List UInt8 := [45, 184, 1, 12, 54, 5, 44, 42, 21, 4, 4, 96, 46, 182, 1, 14, 54, 6, 44, 182, 0, 191, 21, 5, 159, 0, 5, 3, 172, 21, 5, 154, 0, 15, 45, 3, 47, 21, 6, 133, 148, 153, 0, 5, 3, 172, 167, 7, 202, 43, 42, 21, 4, 4, 96, 46, 42, 21, 4, 5, 96, 46, 45, 184, 1, 15, 54, 5, 44, 42, 21, 4, 4, 96, 46, 42, 21, 4, 5, 96, 46, 182, 1, 17, 54, 6, 44, 182, 0, 191, 21, 5, 159, 0, 5, 3, 172, 21, 5, 154]
def lb_18 : List UInt8 := [0, 15, 45, 3, 47, 21, 6, 133, 148, 153, 0, 5, 3, 172, 167, 7, 134, 43, 42, 21, 4, 4, 96, 46, 42, 21, 4, 5, 96, 46, 45, 184, 1, 18, 54, 5, 44, 42, 21, 4, 4, 96, 46, 42, 21, 4, 5, 96, 46, 182, 1, 20, 54, 6, 44, 182, 0, 191, 21, 5, 159, 0, 5, 3, 172, 21, 5, 154, 0, 15, 45, 3, 47, 21, 6, 133, 148, 153, 0, 5, 3, 172, 167, 7, 66, 43, 182, 1, 21, 44, 182, 1, 24, 159, 7, 55, 3, 172, 43, 42]
def lb_19 : List UInt8 := [21, 4, 4, 96, 46, 42, 21, 4, 5, 96, 46, 45, 184, 1, 25, 54, 5, 44, 42, 21, 4, 4, 96, 46, 42, 21, 4, 5, 96, 46, 182, 1, 27, 54, 6, 44, 182, 0, 191, 21, 5, 159, 0, 5, 3, 172, 21, 5, 154, 0, 15, 45, 3, 47, 21, 6, 133, 148, 153, 0, 5, 3, 172, 167, 6, 241, 43, 42, 21, 4, 4, 96, 46, 42, 21, 4, 5, 96, 46, 45, 184, 1, 28, 54, 5, 44, 42, 21, 4, 4, 96, 46, 42, 21, 4, 5, 96, 46, 182, 1]
def lb_20 : List UInt8 := [30, 54, 6, 44, 182, 0, 191, 21, 5, 159, 0, 5, 3, 172, 21, 5, 154, 0, 15, 45, 3, 47, 21, 6, 133, 148, 153, 0, 5, 3, 172, 167, 6, 173, 43, 42, 21, 4, 4, 96, 46, 42, 21, 4, 5, 96, 46, 45, 184, 1, 31, 54, 5, 44, 42, 21, 4, 4, 96, 46, 42, 21, 4, 5, 96, 46, 182, 1, 33, 54, 6, 44, 182, 0, 191, 21, 5, 159, 0, 5, 3, 172, 21, 5, 154, 0, 15, 45, 3, 47, 21, 6, 133, 148, 153, 0, 5, 3, 172, 167]
def lb_21 : List UInt8 := [6, 105, 43, 42, 21, 4, 4, 96, 46, 42, 21, 4, 5, 96, 46, 45, 184, 1, 34, 54, 5, 44, 42, 21, 4, 4, 96, 46, 42, 21, 4, 5, 96, 46, 182, 1, 36, 54, 6, 44, 182, 0, 191, 21, 5, 159, 0, 5, 3, 172, 21, 5, 154, 0, 15, 45, 3, 47, 21, 6, 133, 148, 153, 0, 5, 3, 172, 167, 6, 37, 43, 42, 21, 4, 4, 96, 46, 42, 21, 4, 5, 96, 46, 45, 184, 1, 37, 54, 5, 44, 42, 21, 4, 4, 96, 46, 42, 21, 4, 5]
def lb_22 : List UInt8 := [96, 46, 182, 1, 39, 54, 6, 44, 182, 0, 191, 21, 5, 159, 0, 5, 3, 172, 21, 5, 154, 0, 15, 45, 3, 47, 21, 6, 133, 148, 153, 0, 5, 3, 172, 167, 5, 225, 43, 42, 21, 4, 4, 96, 46, 42, 21, 4, 5, 96, 46, 42, 21, 4, 6, 96, 46, 45, 184, 1, 40, 54, 5, 44, 42, 21, 4, 4, 96, 46, 42, 21, 4, 5, 96, 46, 42, 21, 4, 6, 96, 46, 182, 1, 42, 54, 6, 44, 182, 0, 191, 21, 5, 159, 0, 5, 3, 172, 21, 5]
def lb_23 : List UInt8 := [154, 0, 15, 45, 3, 47, 21, 6, 133, 148, 153, 0, 5, 3, 172, 167, 5, 145, 43, 42, 21, 4, 4, 96, 46, 42, 21, 4, 5, 96, 46, 45, 184, 1, 43, 54, 5, 44, 42, 21, 4, 4, 96, 46, 42, 21, 4, 5, 96, 46, 182, 1, 45, 54, 6, 44, 182, 0, 191, 21, 5, 159, 0, 5, 3, 172, 21, 5, 154, 0, 15, 45, 3, 47, 21, 6, 133, 148, 153, 0, 5, 3, 172, 167, 5, 77, 43, 42, 21, 4, 4, 96, 46, 45, 184, 1, 46, 54, 5, 44]
def lb_24 : List UInt8 := [42, 21, 4, 4, 96, 46, 182, 1, 48, 54, 6, 44, 182, 0, 191, 21, 5, 159, 0, 5, 3, 172, 21, 5, 154, 0, 15, 45, 3, 47, 21, 6, 133, 148, 153, 0, 5, 3, 172, 167, 5, 21, 43, 42, 21, 4, 4, 96, 46, 42, 21, 4, 5, 96, 46, 45, 184, 1, 49, 54, 5, 44, 42, 21, 4, 4, 96, 46, 42, 21, 4, 5, 96, 46, 182, 1, 51, 54, 6, 44, 182, 0, 191, 21, 5, 159, 0, 5, 3, 172, 21, 5, 154, 0, 15, 45, 3, 47, 21, 6]
def lb_25 : List UInt8 := [133, 148, 153, 0, 5, 3, 172, 167, 4, 209, 43, 42, 21, 4, 4, 96, 46, 45, 184, 1, 52, 54, 5, 44, 42, 21, 4, 4, 96, 46, 182, 1, 54, 54, 6, 44, 182, 0, 191, 21, 5, 159, 0, 5, 3, 172, 21, 5, 154, 0, 15, 45, 3, 47, 21, 6, 133, 148, 153, 0, 5, 3, 172, 167, 4, 153, 43, 42, 21, 4, 4, 96, 46, 45, 184, 1, 55, 54, 5, 44, 42, 21, 4, 4, 96, 46, 182, 1, 57, 55, 6, 44, 182, 0, 191, 21, 5, 159, 0, 5]
def lb_26 : List UInt8 := [3, 172, 21, 5, 154, 0, 14, 45, 3, 47, 22, 6, 148, 153, 0, 5, 3, 172, 167, 4, 98, 43, 42, 21, 4, 4, 96, 46, 42, 21, 4, 5, 96, 46, 133, 16, 32, 121, 42, 21, 4, 6, 96, 46, 133, 20, 1, 58, 127, 129, 42, 21, 4, 7, 96, 46, 45, 184, 1, 60, 54, 5, 44, 42, 21, 4, 4, 96, 46, 42, 21, 4, 5, 96, 46, 133, 16, 32, 121, 42, 21, 4, 6, 96, 46, 133, 20, 1, 58, 127, 129, 42, 21, 4, 7, 96, 46, 182, 1, 63]
def lb_27 : List UInt8 := [54, 6, 44, 182, 0, 191, 21, 5, 159, 0, 5, 3, 172, 21, 5, 154, 0, 15, 45, 3, 47, 21, 6, 133, 148, 153, 0, 5, 3, 172, 167, 3, 242, 43, 182, 1, 64, 44, 182, 1, 67, 159, 3, 231, 3, 172, 43, 42, 21, 4, 4, 96, 46, 42, 21, 4, 5, 96, 46, 153, 0, 7, 4, 167, 0, 4, 3, 45, 184, 1, 68, 54, 5, 44, 42, 21, 4, 4, 96, 46, 42, 21, 4, 5, 96, 46, 153, 0, 7, 4, 167, 0, 4, 3, 182, 1, 70, 54, 6, 44]
def lb_28 : List UInt8 := [182, 0, 191, 21, 5, 159, 0, 5, 3, 172, 21, 5, 154, 0, 15, 45, 3, 47, 21, 6, 133, 148, 153, 0, 5, 3, 172, 167, 3, 145, 43, 42, 21, 4, 4, 96, 46, 42, 21, 4, 5, 96, 46, 45, 184, 1, 71, 54, 5, 44, 42, 21, 4, 4, 96, 46, 42, 21, 4, 5, 96, 46, 182, 1, 73, 55, 6, 44, 182, 0, 191, 21, 5, 159, 0, 5, 3, 172, 21, 5, 154, 0, 14, 45, 3, 47, 22, 6, 148, 153, 0, 5, 3, 172, 167, 3, 78, 43, 42, 21]
def lb_29 : List UInt8 := [4, 4, 96, 46, 42, 21, 4, 5, 96, 46, 42, 21, 4, 6, 96, 46, 153, 0, 7, 4, 167, 0, 4, 3, 45, 184, 1, 74, 54, 5, 44, 42, 21, 4, 4, 96, 46, 42, 21, 4, 5, 96, 46, 42, 21, 4, 6, 96, 46, 153, 0, 7, 4, 167, 0, 4, 3, 182, 1, 77, 54, 6, 44, 182, 0, 191, 21, 5, 159, 0, 5, 3, 172, 21, 5, 154, 0, 15, 45, 3, 47, 21, 6, 133, 148, 153, 0, 5, 3, 172, 167, 2, 238, 43, 42, 21, 4, 4, 96, 46]
def lb_30 : List UInt8 := [42, 21, 4, 5, 96, 46, 45, 184, 1, 78, 54, 5, 44, 42, 21, 4, 4, 96, 46, 42, 21, 4, 5, 96, 46, 182, 1, 80, 54, 6, 44, 182, 0, 191, 21, 5, 159, 0, 5, 3, 172, 21, 5, 154, 0, 15, 45, 3, 47, 21, 6, 133, 148, 153, 0, 5, 3, 172, 167, 2, 170, 43, 42, 21, 4, 4, 96, 46, 42, 21, 4, 5, 96, 46, 45, 184, 1, 81, 54, 5, 44, 42, 21, 4, 4, 96, 46, 42, 21, 4, 5, 96, 46, 182, 1, 83, 54, 6, 44, 182]
def lb_31 : List UInt8 := [0, 191, 21, 5, 159, 0, 5, 3, 172, 21, 5, 154, 0, 15, 45, 3, 47, 21, 6, 133, 148, 153, 0, 5, 3, 172, 167, 2, 102, 43, 42, 21, 4, 4, 96, 46, 45, 184, 1, 84, 54, 5, 44, 42, 21, 4, 4, 96, 46, 182, 1, 86, 54, 6, 44, 182, 0, 191, 21, 5, 159, 0, 5, 3, 172, 21, 5, 154, 0, 15, 45, 3, 47, 21, 6, 133, 148, 153, 0, 5, 3, 172, 167, 2, 46, 43, 42, 21, 4, 4, 96, 46, 45, 184, 1, 87, 54, 5, 44, 42]
def lb_32 : List UInt8 := [21, 4, 4, 96, 46, 182, 1, 89, 54, 6, 44, 182, 0, 191, 21, 5, 159, 0, 5, 3, 172, 21, 5, 154, 0, 15, 45, 3, 47, 21, 6, 133, 148, 153, 0, 5, 3, 172, 167, 1, 246, 43, 42, 21, 4, 4, 96, 46, 45, 184, 1, 90, 54, 5, 44, 42, 21, 4, 4, 96, 46, 182, 1, 92, 54, 6, 44, 182, 0, 191, 21, 5, 159, 0, 5, 3, 172, 21, 5, 154, 0, 22, 45, 3, 47, 21, 6, 153, 0, 7, 10, 167, 0, 4, 9, 148, 153, 0, 5, 3]
def lb_33 : List UInt8 := [172, 167, 1, 183, 43, 42, 21, 4, 4, 96, 46, 45, 184, 1, 93, 54, 5, 44, 42, 21, 4, 4, 96, 46, 182, 1, 95, 54, 6, 44, 182, 0, 191, 21, 5, 159, 0, 5, 3, 172, 21, 5, 154, 0, 15, 45, 3, 47, 21, 6, 133, 148, 153, 0, 5, 3, 172, 167, 1, 127, 43, 42, 21, 4, 4, 96, 46, 45, 184, 1, 96, 54, 5, 44, 42, 21, 4, 4, 96, 46, 182, 1, 98, 54, 6, 44, 182, 0, 191, 21, 5, 159, 0, 5, 3, 172, 21, 5, 154, 0]
def lb_34 : List UInt8 := [15, 45, 3, 47, 21, 6, 133, 148, 153, 0, 5, 3, 172, 167, 1, 71, 43, 42, 21, 4, 4, 96, 46, 45, 184, 1, 99, 54, 5, 44, 42, 21, 4, 4, 96, 46, 182, 1, 101, 54, 6, 44, 182, 0, 191, 21, 5, 159, 0, 5, 3, 172, 21, 5, 154, 0, 15, 45, 3, 47, 21, 6, 133, 148, 153, 0, 5, 3, 172, 167, 1, 15, 43, 42, 21, 4, 4, 96, 46, 42, 21, 4, 5, 96, 46, 42, 21, 4, 6, 96, 46, 184, 1, 102, 54, 5, 44, 42, 21, 4]
def lb_35 : List UInt8 := [4, 96, 46, 42, 21, 4, 5, 96, 46, 42, 21, 4, 6, 96, 46, 182, 1, 105, 44, 182, 0, 191, 21, 5, 159, 0, 5, 3, 172, 167, 0, 211, 43, 42, 21, 4, 4, 96, 46, 42, 21, 4, 5, 96, 46, 42, 21, 4, 6, 96, 46, 133, 16, 32, 121, 42, 21, 4, 7, 96, 46, 133, 20, 1, 58, 127, 129, 45, 184, 1, 106, 54, 5, 44, 42, 21, 4, 4, 96, 46, 42, 21, 4, 5, 96, 46, 42, 21, 4, 6, 96, 46, 133, 16, 32, 121, 42, 21, 4, 7]
def lb_36 : List UInt8 := [96, 46, 133, 20, 1, 58, 127, 129, 182, 1, 109, 55, 6, 44, 182, 0, 191, 21, 5, 159, 0, 5, 3, 172, 21, 5, 154, 0, 14, 45, 3, 47, 22, 6, 148, 153, 0, 5, 3, 172, 167, 0, 100, 43, 42, 21, 4, 4, 96, 46, 184, 1, 110, 54, 5, 44, 42, 21, 4, 4, 96, 46, 182, 1, 113, 44, 182, 0, 191, 21, 5, 159, 0, 5, 3, 172, 167, 0, 64, 43, 42, 21, 4, 4, 96, 46, 184, 1, 114, 54, 5, 44, 42, 21, 4, 4, 96, 46, 182, 1]
def lb_37 : List UInt8 := [116, 44, 182, 0, 191, 21, 5, 159, 0, 5, 3, 172, 167, 0, 28, 43, 42, 21, 4, 4, 96, 46, 182, 1, 117, 44, 42, 21, 4, 4, 96, 46, 182, 1, 120, 159, 0, 5, 3, 172, 132, 4, 6, 167, 241, 120, 4, 172]
def sb_38 : List UInt8 := []
def sb_37 : List UInt8 := lb_37 ++ sb_38
def sb_36 : List UInt8 := lb_36 ++ sb_37
def sb_35 : List UInt8 := lb_35 ++ sb_36
def sb_34 : List UInt8 := lb_34 ++ sb_35
def sb_33 : List UInt8 := lb_33 ++ sb_34
def sb_32 : List UInt8 := lb_32 ++ sb_33
def sb_31 : List UInt8 := lb_31 ++ sb_32
def sb_30 : List UInt8 := lb_30 ++ sb_31
def sb_29 : List UInt8 := lb_29 ++ sb_30
def sb_28 : List UInt8 := lb_28 ++ sb_29
def sb_27 : List UInt8 := lb_27 ++ sb_28
def sb_26 : List UInt8 := lb_26 ++ sb_27
def sb_25 : List UInt8 := lb_25 ++ sb_26
def sb_24 : List UInt8 := lb_24 ++ sb_25
def sb_23 : List UInt8 := lb_23 ++ sb_24
def sb_22 : List UInt8 := lb_22 ++ sb_23
def sb_21 : List UInt8 := lb_21 ++ sb_22
def sb_20 : List UInt8 := lb_20 ++ sb_21
def sb_19 : List UInt8 := lb_19 ++ sb_20
def sb_18 : List UInt8 := lb_18 ++ sb_19
def sb_17 : List UInt8 := lb_17 ++ sb_18
def sb_16 : List UInt8 := lb_16 ++ sb_17
def sb_15 : List UInt8 := lb_15 ++ sb_16
def sb_14 : List UInt8 := lb_14 ++ sb_15
def sb_13 : List UInt8 := lb_13 ++ sb_14
def sb_12 : List UInt8 := lb_12 ++ sb_13
def sb_11 : List UInt8 := lb_11 ++ sb_12
def sb_10 : List UInt8 := lb_10 ++ sb_11
def sb_9 : List UInt8 := lb_9 ++ sb_10
def sb_8 : List UInt8 := lb_8 ++ sb_9
def sb_7 : List UInt8 := lb_7 ++ sb_8
def sb_6 : List UInt8 := lb_6 ++ sb_7
def sb_5 : List UInt8 := lb_5 ++ sb_6
def sb_4 : List UInt8 := lb_4 ++ sb_5
def sb_3 : List UInt8 := lb_3 ++ sb_4
def sb_2 : List UInt8 := lb_2 ++ sb_3
def sb_1 : List UInt8 := lb_1 ++ sb_2
def sb_0 : List UInt8 := lb_0 ++ sb_1
theorem sb_code : code.data.toList = sb_0 := by decide +kernel
theorem sz_0 {i : Nat} : sb_0[0 + i]? = sb_0[i]? := by rw [Nat.zero_add]
theorem sz_1 {i : Nat} : sb_0[100 + i]? = sb_1[i]? := by
  rw [show 100 + i = 0 + (100 + i) by omega, sz_0]
  exact gA (A := lb_0) rfl
theorem sz_2 {i : Nat} : sb_0[200 + i]? = sb_2[i]? := by
  rw [show 200 + i = 100 + (100 + i) by omega, sz_1]
  exact gA (A := lb_1) rfl
theorem sz_3 {i : Nat} : sb_0[300 + i]? = sb_3[i]? := by
  rw [show 300 + i = 200 + (100 + i) by omega, sz_2]
  exact gA (A := lb_2) rfl
theorem sz_4 {i : Nat} : sb_0[400 + i]? = sb_4[i]? := by
  rw [show 400 + i = 300 + (100 + i) by omega, sz_3]
  exact gA (A := lb_3) rfl
theorem sz_5 {i : Nat} : sb_0[500 + i]? = sb_5[i]? := by
  rw [show 500 + i = 400 + (100 + i) by omega, sz_4]
  exact gA (A := lb_4) rfl
theorem sz_6 {i : Nat} : sb_0[600 + i]? = sb_6[i]? := by
  rw [show 600 + i = 500 + (100 + i) by omega, sz_5]
  exact gA (A := lb_5) rfl
theorem sz_7 {i : Nat} : sb_0[700 + i]? = sb_7[i]? := by
  rw [show 700 + i = 600 + (100 + i) by omega, sz_6]
  exact gA (A := lb_6) rfl
theorem sz_8 {i : Nat} : sb_0[800 + i]? = sb_8[i]? := by
  rw [show 800 + i = 700 + (100 + i) by omega, sz_7]
  exact gA (A := lb_7) rfl
theorem sz_9 {i : Nat} : sb_0[900 + i]? = sb_9[i]? := by
  rw [show 900 + i = 800 + (100 + i) by omega, sz_8]
  exact gA (A := lb_8) rfl
theorem sz_10 {i : Nat} : sb_0[1000 + i]? = sb_10[i]? := by
  rw [show 1000 + i = 900 + (100 + i) by omega, sz_9]
  exact gA (A := lb_9) rfl
theorem sz_11 {i : Nat} : sb_0[1100 + i]? = sb_11[i]? := by
  rw [show 1100 + i = 1000 + (100 + i) by omega, sz_10]
  exact gA (A := lb_10) rfl
theorem sz_12 {i : Nat} : sb_0[1200 + i]? = sb_12[i]? := by
  rw [show 1200 + i = 1100 + (100 + i) by omega, sz_11]
  exact gA (A := lb_11) rfl
theorem sz_13 {i : Nat} : sb_0[1300 + i]? = sb_13[i]? := by
  rw [show 1300 + i = 1200 + (100 + i) by omega, sz_12]
  exact gA (A := lb_12) rfl
theorem sz_14 {i : Nat} : sb_0[1400 + i]? = sb_14[i]? := by
  rw [show 1400 + i = 1300 + (100 + i) by omega, sz_13]
  exact gA (A := lb_13) rfl
theorem sz_15 {i : Nat} : sb_0[1500 + i]? = sb_15[i]? := by
  rw [show 1500 + i = 1400 + (100 + i) by omega, sz_14]
  exact gA (A := lb_14) rfl
theorem sz_16 {i : Nat} : sb_0[1600 + i]? = sb_16[i]? := by
  rw [show 1600 + i = 1500 + (100 + i) by omega, sz_15]
  exact gA (A := lb_15) rfl
theorem sz_17 {i : Nat} : sb_0[1700 + i]? = sb_17[i]? := by
  rw [show 1700 + i = 1600 + (100 + i) by omega, sz_16]
  exact gA (A := lb_16) rfl
theorem sz_18 {i : Nat} : sb_0[1800 + i]? = sb_18[i]? := by
  rw [show 1800 + i = 1700 + (100 + i) by omega, sz_17]
  exact gA (A := lb_17) rfl
theorem sz_19 {i : Nat} : sb_0[1900 + i]? = sb_19[i]? := by
  rw [show 1900 + i = 1800 + (100 + i) by omega, sz_18]
  exact gA (A := lb_18) rfl
theorem sz_20 {i : Nat} : sb_0[2000 + i]? = sb_20[i]? := by
  rw [show 2000 + i = 1900 + (100 + i) by omega, sz_19]
  exact gA (A := lb_19) rfl
theorem sz_21 {i : Nat} : sb_0[2100 + i]? = sb_21[i]? := by
  rw [show 2100 + i = 2000 + (100 + i) by omega, sz_20]
  exact gA (A := lb_20) rfl
theorem sz_22 {i : Nat} : sb_0[2200 + i]? = sb_22[i]? := by
  rw [show 2200 + i = 2100 + (100 + i) by omega, sz_21]
  exact gA (A := lb_21) rfl
theorem sz_23 {i : Nat} : sb_0[2300 + i]? = sb_23[i]? := by
  rw [show 2300 + i = 2200 + (100 + i) by omega, sz_22]
  exact gA (A := lb_22) rfl
theorem sz_24 {i : Nat} : sb_0[2400 + i]? = sb_24[i]? := by
  rw [show 2400 + i = 2300 + (100 + i) by omega, sz_23]
  exact gA (A := lb_23) rfl
theorem sz_25 {i : Nat} : sb_0[2500 + i]? = sb_25[i]? := by
  rw [show 2500 + i = 2400 + (100 + i) by omega, sz_24]
  exact gA (A := lb_24) rfl
theorem sz_26 {i : Nat} : sb_0[2600 + i]? = sb_26[i]? := by
  rw [show 2600 + i = 2500 + (100 + i) by omega, sz_25]
  exact gA (A := lb_25) rfl
theorem sz_27 {i : Nat} : sb_0[2700 + i]? = sb_27[i]? := by
  rw [show 2700 + i = 2600 + (100 + i) by omega, sz_26]
  exact gA (A := lb_26) rfl
theorem sz_28 {i : Nat} : sb_0[2800 + i]? = sb_28[i]? := by
  rw [show 2800 + i = 2700 + (100 + i) by omega, sz_27]
  exact gA (A := lb_27) rfl
theorem sz_29 {i : Nat} : sb_0[2900 + i]? = sb_29[i]? := by
  rw [show 2900 + i = 2800 + (100 + i) by omega, sz_28]
  exact gA (A := lb_28) rfl
theorem sz_30 {i : Nat} : sb_0[3000 + i]? = sb_30[i]? := by
  rw [show 3000 + i = 2900 + (100 + i) by omega, sz_29]
  exact gA (A := lb_29) rfl
theorem sz_31 {i : Nat} : sb_0[3100 + i]? = sb_31[i]? := by
  rw [show 3100 + i = 3000 + (100 + i) by omega, sz_30]
  exact gA (A := lb_30) rfl
theorem sz_32 {i : Nat} : sb_0[3200 + i]? = sb_32[i]? := by
  rw [show 3200 + i = 3100 + (100 + i) by omega, sz_31]
  exact gA (A := lb_31) rfl
theorem sz_33 {i : Nat} : sb_0[3300 + i]? = sb_33[i]? := by
  rw [show 3300 + i = 3200 + (100 + i) by omega, sz_32]
  exact gA (A := lb_32) rfl
theorem sz_34 {i : Nat} : sb_0[3400 + i]? = sb_34[i]? := by
  rw [show 3400 + i = 3300 + (100 + i) by omega, sz_33]
  exact gA (A := lb_33) rfl
theorem sz_35 {i : Nat} : sb_0[3500 + i]? = sb_35[i]? := by
  rw [show 3500 + i = 3400 + (100 + i) by omega, sz_34]
  exact gA (A := lb_34) rfl
theorem sz_36 {i : Nat} : sb_0[3600 + i]? = sb_36[i]? := by
  rw [show 3600 + i = 3500 + (100 + i) by omega, sz_35]
  exact gA (A := lb_35) rfl
theorem sz_37 {i : Nat} : sb_0[3700 + i]? = sb_37[i]? := by
  rw [show 3700 + i = 3600 + (100 + i) by omega, sz_36]
  exact gA (A := lb_36) rfl
theorem bz_0 {p b : Nat} (i : Nat) (hi : i < 100) (h : (lb_0[i]?).map UInt8.toNat = some b) (hp : 0 + i = p) : rdB code p b := by
  subst hp
  refine rdB_list sb_code ?_
  rw [sz_0, show sb_0 = lb_0 ++ sb_1 from rfl, gB (by show i < 100; exact hi)]
  exact h
theorem bz_1 {p b : Nat} (i : Nat) (hi : i < 100) (h : (lb_1[i]?).map UInt8.toNat = some b) (hp : 100 + i = p) : rdB code p b := by
  subst hp
  refine rdB_list sb_code ?_
  rw [sz_1, show sb_1 = lb_1 ++ sb_2 from rfl, gB (by show i < 100; exact hi)]
  exact h
theorem bz_2 {p b : Nat} (i : Nat) (hi : i < 100) (h : (lb_2[i]?).map UInt8.toNat = some b) (hp : 200 + i = p) : rdB code p b := by
  subst hp
  refine rdB_list sb_code ?_
  rw [sz_2, show sb_2 = lb_2 ++ sb_3 from rfl, gB (by show i < 100; exact hi)]
  exact h
theorem bz_3 {p b : Nat} (i : Nat) (hi : i < 100) (h : (lb_3[i]?).map UInt8.toNat = some b) (hp : 300 + i = p) : rdB code p b := by
  subst hp
  refine rdB_list sb_code ?_
  rw [sz_3, show sb_3 = lb_3 ++ sb_4 from rfl, gB (by show i < 100; exact hi)]
  exact h
theorem bz_4 {p b : Nat} (i : Nat) (hi : i < 100) (h : (lb_4[i]?).map UInt8.toNat = some b) (hp : 400 + i = p) : rdB code p b := by
  subst hp
  refine rdB_list sb_code ?_
  rw [sz_4, show sb_4 = lb_4 ++ sb_5 from rfl, gB (by show i < 100; exact hi)]
  exact h
theorem bz_5 {p b : Nat} (i : Nat) (hi : i < 100) (h : (lb_5[i]?).map UInt8.toNat = some b) (hp : 500 + i = p) : rdB code p b := by
  subst hp
  refine rdB_list sb_code ?_
  rw [sz_5, show sb_5 = lb_5 ++ sb_6 from rfl, gB (by show i < 100; exact hi)]
  exact h
theorem bz_6 {p b : Nat} (i : Nat) (hi : i < 100) (h : (lb_6[i]?).map UInt8.toNat = some b) (hp : 600 + i = p) : rdB code p b := by
  subst hp
  refine rdB_list sb_code ?_
  rw [sz_6, show sb_6 = lb_6 ++ sb_7 from rfl, gB (by show i < 100; exact hi)]
  exact h
theorem bz_7 {p b : Nat} (i : Nat) (hi : i < 100) (h : (lb_7[i]?).map UInt8.toNat = some b) (hp : 700 + i = p) : rdB code p b := by
  subst hp
  refine rdB_list sb_code ?_
  rw [sz_7, show sb_7 = lb_7 ++ sb_8 from rfl, gB (by show i < 100; exact hi)]
  exact h
theorem bz_8 {p b : Nat} (i : Nat) (hi : i < 100) (h : (lb_8[i]?).map UInt8.toNat = some b) (hp : 800 + i = p) : rdB code p b := by
  subst hp
  refine rdB_list sb_code ?_
  rw [sz_8, show sb_8 = lb_8 ++ sb_9 from rfl, gB (by show i < 100; exact hi)]
  exact h
theorem bz_9 {p b : Nat} (i : Nat) (hi : i < 100) (h : (lb_9[i]?).map UInt8.toNat = some b) (hp : 900 + i = p) : rdB code p b := by
  subst hp
  refine rdB_list sb_code ?_
  rw [sz_9, show sb_9 = lb_9 ++ sb_10 from rfl, gB (by show i < 100; exact hi)]
  exact h
theorem bz_10 {p b : Nat} (i : Nat) (hi : i < 100) (h : (lb_10[i]?).map UInt8.toNat = some b) (hp : 1000 + i = p) : rdB code p b := by
  subst hp
  refine rdB_list sb_code ?_
  rw [sz_10, show sb_10 = lb_10 ++ sb_11 from rfl, gB (by show i < 100; exact hi)]
  exact h
theorem bz_11 {p b : Nat} (i : Nat) (hi : i < 100) (h : (lb_11[i]?).map UInt8.toNat = some b) (hp : 1100 + i = p) : rdB code p b := by
  subst hp
  refine rdB_list sb_code ?_
  rw [sz_11, show sb_11 = lb_11 ++ sb_12 from rfl, gB (by show i < 100; exact hi)]
  exact h
theorem bz_12 {p b : Nat} (i : Nat) (hi : i < 100) (h : (lb_12[i]?).map UInt8.toNat = some b) (hp : 1200 + i = p) : rdB code p b := by
  subst hp
  refine rdB_list sb_code ?_
  rw [sz_12, show sb_12 = lb_12 ++ sb_13 from rfl, gB (by show i < 100; exact hi)]
  exact h
theorem bz_13 {p b : Nat} (i : Nat) (hi : i < 100) (h : (lb_13[i]?).map UInt8.toNat = some b) (hp : 1300 + i = p) : rdB code p b := by
  subst hp
  refine rdB_list sb_code ?_
  rw [sz_13, show sb_13 = lb_13 ++ sb_14 from rfl, gB (by show i < 100; exact hi)]
  exact h
theorem bz_14 {p b : Nat} (i : Nat) (hi : i < 100) (h : (lb_14[i]?).map UInt8.toNat = some b) (hp : 1400 + i = p) : rdB code p b := by
  subst hp
  refine rdB_list sb_code ?_
  rw [sz_14, show sb_14 = lb_14 ++ sb_15 from rfl, gB (by show i < 100; exact hi)]
  exact h
theorem bz_15 {p b : Nat} (i : Nat) (hi : i < 100) (h : (lb_15[i]?).map UInt8.toNat = some b) (hp : 1500 + i = p) : rdB code p b := by
  subst hp
  refine rdB_list sb_code ?_
  rw [sz_15, show sb_15 = lb_15 ++ sb_16 from rfl, gB (by show i < 100; exact hi)]
  exact h
theorem bz_16 {p b : Nat} (i : Nat) (hi : i < 100) (h : (lb_16[i]?).map UInt8.toNat = some b) (hp : 1600 + i = p) : rdB code p b := by
  subst hp
  refine rdB_list sb_code ?_
  rw [sz_16, show sb_16 = lb_16 ++ sb_17 from rfl, gB (by show i < 100; exact hi)]
  exact h
theorem bz_17 {p b : Nat} (i : Nat) (hi : i < 100) (h : (lb_17[i]?).map UInt8.toNat = some b) (hp : 1700 + i = p) : rdB code p b := by
  subst hp
  refine rdB_list sb_code ?_
  rw [sz_17, show sb_17 = lb_17 ++ sb_18 from rfl, gB (by show i < 100; exact hi)]
  exact h
theorem bz_18 {p b : Nat} (i : Nat) (hi : i < 100) (h : (lb_18[i]?).map UInt8.toNat = some b) (hp : 1800 + i = p) : rdB code p b := by
  subst hp
  refine rdB_list sb_code ?_
  rw [sz_18, show sb_18 = lb_18 ++ sb_19 from rfl, gB (by show i < 100; exact hi)]
  exact h
theorem bz_19 {p b : Nat} (i : Nat) (hi : i < 100) (h : (lb_19[i]?).map UInt8.toNat = some b) (hp : 1900 + i = p) : rdB code p b := by
  subst hp
  refine rdB_list sb_code ?_
  rw [sz_19, show sb_19 = lb_19 ++ sb_20 from rfl, gB (by show i < 100; exact hi)]
  exact h
theorem bz_20 {p b : Nat} (i : Nat) (hi : i < 100) (h : (lb_20[i]?).map UInt8.toNat = some b) (hp : 2000 + i = p) : rdB code p b := by
  subst hp
  refine rdB_list sb_code ?_
  rw [sz_20, show sb_20 = lb_20 ++ sb_21 from rfl, gB (by show i < 100; exact hi)]
  exact h
theorem bz_21 {p b : Nat} (i : Nat) (hi : i < 100) (h : (lb_21[i]?).map UInt8.toNat = some b) (hp : 2100 + i = p) : rdB code p b := by
  subst hp
  refine rdB_list sb_code ?_
  rw [sz_21, show sb_21 = lb_21 ++ sb_22 from rfl, gB (by show i < 100; exact hi)]
  exact h
theorem bz_22 {p b : Nat} (i : Nat) (hi : i < 100) (h : (lb_22[i]?).map UInt8.toNat = some b) (hp : 2200 + i = p) : rdB code p b := by
  subst hp
  refine rdB_list sb_code ?_
  rw [sz_22, show sb_22 = lb_22 ++ sb_23 from rfl, gB (by show i < 100; exact hi)]
  exact h
theorem bz_23 {p b : Nat} (i : Nat) (hi : i < 100) (h : (lb_23[i]?).map UInt8.toNat = some b) (hp : 2300 + i = p) : rdB code p b := by
  subst hp
  refine rdB_list sb_code ?_
  rw [sz_23, show sb_23 = lb_23 ++ sb_24 from rfl, gB (by show i < 100; exact hi)]
  exact h
theorem bz_24 {p b : Nat} (i : Nat) (hi : i < 100) (h : (lb_24[i]?).map UInt8.toNat = some b) (hp : 2400 + i = p) : rdB code p b := by
  subst hp
  refine rdB_list sb_code ?_
  rw [sz_24, show sb_24 = lb_24 ++ sb_25 from rfl, gB (by show i < 100; exact hi)]
  exact h
theorem bz_25 {p b : Nat} (i : Nat) (hi : i < 100) (h : (lb_25[i]?).map UInt8.toNat = some b) (hp : 2500 + i = p) : rdB code p b := by
  subst hp
  refine rdB_list sb_code ?_
  rw [sz_25, show sb_25 = lb_25 ++ sb_26 from rfl, gB (by show i < 100; exact hi)]
  exact h
theorem bz_26 {p b : Nat} (i : Nat) (hi : i < 100) (h : (lb_26[i]?).map UInt8.toNat = some b) (hp : 2600 + i = p) : rdB code p b := by
  subst hp
  refine rdB_list sb_code ?_
  rw [sz_26, show sb_26 = lb_26 ++ sb_27 from rfl, gB (by show i < 100; exact hi)]
  exact h
theorem bz_27 {p b : Nat} (i : Nat) (hi : i < 100) (h : (lb_27[i]?).map UInt8.toNat = some b) (hp : 2700 + i = p) : rdB code p b := by
  subst hp
  refine rdB_list sb_code ?_
  rw [sz_27, show sb_27 = lb_27 ++ sb_28 from rfl, gB (by show i < 100; exact hi)]
  exact h
theorem bz_28 {p b : Nat} (i : Nat) (hi : i < 100) (h : (lb_28[i]?).map UInt8.toNat = some b) (hp : 2800 + i = p) : rdB code p b := by
  subst hp
  refine rdB_list sb_code ?_
  rw [sz_28, show sb_28 = lb_28 ++ sb_29 from rfl, gB (by show i < 100; exact hi)]
  exact h
theorem bz_29 {p b : Nat} (i : Nat) (hi : i < 100) (h : (lb_29[i]?).map UInt8.toNat = some b) (hp : 2900 + i = p) : rdB code p b := by
  subst hp
  refine rdB_list sb_code ?_
  rw [sz_29, show sb_29 = lb_29 ++ sb_30 from rfl, gB (by show i < 100; exact hi)]
  exact h
theorem bz_30 {p b : Nat} (i : Nat) (hi : i < 100) (h : (lb_30[i]?).map UInt8.toNat = some b) (hp : 3000 + i = p) : rdB code p b := by
  subst hp
  refine rdB_list sb_code ?_
  rw [sz_30, show sb_30 = lb_30 ++ sb_31 from rfl, gB (by show i < 100; exact hi)]
  exact h
theorem bz_31 {p b : Nat} (i : Nat) (hi : i < 100) (h : (lb_31[i]?).map UInt8.toNat = some b) (hp : 3100 + i = p) : rdB code p b := by
  subst hp
  refine rdB_list sb_code ?_
  rw [sz_31, show sb_31 = lb_31 ++ sb_32 from rfl, gB (by show i < 100; exact hi)]
  exact h
theorem bz_32 {p b : Nat} (i : Nat) (hi : i < 100) (h : (lb_32[i]?).map UInt8.toNat = some b) (hp : 3200 + i = p) : rdB code p b := by
  subst hp
  refine rdB_list sb_code ?_
  rw [sz_32, show sb_32 = lb_32 ++ sb_33 from rfl, gB (by show i < 100; exact hi)]
  exact h
theorem bz_33 {p b : Nat} (i : Nat) (hi : i < 100) (h : (lb_33[i]?).map UInt8.toNat = some b) (hp : 3300 + i = p) : rdB code p b := by
  subst hp
  refine rdB_list sb_code ?_
  rw [sz_33, show sb_33 = lb_33 ++ sb_34 from rfl, gB (by show i < 100; exact hi)]
  exact h
theorem bz_34 {p b : Nat} (i : Nat) (hi : i < 100) (h : (lb_34[i]?).map UInt8.toNat = some b) (hp : 3400 + i = p) : rdB code p b := by
  subst hp
  refine rdB_list sb_code ?_
  rw [sz_34, show sb_34 = lb_34 ++ sb_35 from rfl, gB (by show i < 100; exact hi)]
  exact h
theorem bz_35 {p b : Nat} (i : Nat) (hi : i < 100) (h : (lb_35[i]?).map UInt8.toNat = some b) (hp : 3500 + i = p) : rdB code p b := by
  subst hp
  refine rdB_list sb_code ?_
  rw [sz_35, show sb_35 = lb_35 ++ sb_36 from rfl, gB (by show i < 100; exact hi)]
  exact h
theorem bz_36 {p b : Nat} (i : Nat) (hi : i < 100) (h : (lb_36[i]?).map UInt8.toNat = some b) (hp : 3600 + i = p) : rdB code p b := by
  subst hp
  refine rdB_list sb_code ?_
  rw [sz_36, show sb_36 = lb_36 ++ sb_37 from rfl, gB (by show i < 100; exact hi)]
  exact h
theorem bz_37 {p b : Nat} (i : Nat) (hi : i < 48) (h : (lb_37[i]?).map UInt8.toNat = some b) (hp : 3700 + i = p) : rdB code p b := by
  subst hp
  refine rdB_list sb_code ?_
  rw [sz_37, show sb_37 = lb_37 ++ sb_38 from rfl, gB (by show i < 48; exact hi)]
  exact h
end DEC
