/-! every step of the machine is a step of the JVM -/
section ZN
variable {l : Launch} {D : va_G} {tA : FieldType → ClassId} {adK adV : Nat → Nat} {b : Nat} {sc : Nat × (Nat → Int32)} {N0 : Nat} {q : zMI} {d : Nat} {p : Program} {e : Env} {R : Room} {s : State} {m : MethodId} {args : Array Value} {below : List Frame} {meth : Method} {c : Code} {ρ0 : List Nat} {Qm : State → Prop}
variable {pc pc1 n : Nat} {als als1 ast ast1 : List Value} {ws ws1 : List zC} {kc kc1 ks ks1 : Nat}
set_option maxHeartbeats 4000000 in
theorem zinst (C : zCt l D tA adK adV b sc N0 q d p R s m args meth c) {r : Instr} (hdec : decode q.cc pc = .ok (r, n)) (hlen : zil r n = true) (hjk : zjk r pc = true) (hn : znx sc q d (zres q.cn r) n pc als ast ws kc ks = some (pc1, als1, ast1, ws1, kc1, ks1)) (K : zCo l D tA adK adV b N0 q p e R s m args below meth c ρ0 Qm pc1 als1 ast1 ws1 kc1 ks1) : zCo l D tA adK adV b N0 q p e R s m args below meth c ρ0 Qm pc als ast ws kc ks := by
  cases r
  case iadd => simp only [zil, beq_iff_eq] at hlen; subst hlen; exact zi_iadd C hdec hn K
  case isub => simp only [zil, beq_iff_eq] at hlen; subst hlen; exact zi_isub C hdec hn K
  case imul => simp only [zil, beq_iff_eq] at hlen; subst hlen; exact zi_imul C hdec hn K
  case idiv => simp only [zil, beq_iff_eq] at hlen; subst hlen; exact zi_idiv C hdec hn K
  case irem => simp only [zil, beq_iff_eq] at hlen; subst hlen; exact zi_irem C hdec hn K
  case iand => simp only [zil, beq_iff_eq] at hlen; subst hlen; exact zi_iand C hdec hn K
  case ior => simp only [zil, beq_iff_eq] at hlen; subst hlen; exact zi_ior C hdec hn K
  case ishl => simp only [zil, beq_iff_eq] at hlen; subst hlen; exact zi_ishl C hdec hn K
  case ishr => simp only [zil, beq_iff_eq] at hlen; subst hlen; exact zi_ishr C hdec hn K
  case iushr => simp only [zil, beq_iff_eq] at hlen; subst hlen; exact zi_iushr C hdec hn K
  case i2l => simp only [zil, beq_iff_eq] at hlen; subst hlen; exact zi_i2l C hdec hn K
  case i2b => simp only [zil, beq_iff_eq] at hlen; subst hlen; exact zi_i2b C hdec hn K
  case i2c => simp only [zil, beq_iff_eq] at hlen; subst hlen; exact zi_i2c C hdec hn K
  case lshl => simp only [zil, beq_iff_eq] at hlen; subst hlen; exact zi_lshl C hdec hn K
  case lushr => simp only [zil, beq_iff_eq] at hlen; subst hlen; exact zi_lushr C hdec hn K
  case land => simp only [zil, beq_iff_eq] at hlen; subst hlen; exact zi_land C hdec hn K
  case lor => simp only [zil, beq_iff_eq] at hlen; subst hlen; exact zi_lor C hdec hn K
  case lcmp => simp only [zil, beq_iff_eq] at hlen; subst hlen; exact zi_lcmp C hdec hn K
  case dup => simp only [zil, beq_iff_eq] at hlen; subst hlen; exact zi_dup C hdec hn K
  case dup2 => simp only [zil, beq_iff_eq] at hlen; subst hlen; exact zi_dup2 C hdec hn K
  case pop => simp only [zil, beq_iff_eq] at hlen; subst hlen; exact zi_pop C hdec hn K
  case iaload => simp only [zil, beq_iff_eq] at hlen; subst hlen; exact zi_iaload C hdec hn K
  case baload => simp only [zil, beq_iff_eq] at hlen; subst hlen; exact zi_baload C hdec hn K
  case laload => simp only [zil, beq_iff_eq] at hlen; subst hlen; exact zi_laload C hdec hn K
  case aaload => simp only [zil, beq_iff_eq] at hlen; subst hlen; exact zi_aaload C hdec hn K
  case arraylength => simp only [zil, beq_iff_eq] at hlen; subst hlen; exact zi_arraylength C hdec hn K
  case iastore => simp only [zil, beq_iff_eq] at hlen; subst hlen; exact zi_iastore C hdec hn K
  case bastore => simp only [zil, beq_iff_eq] at hlen; subst hlen; exact zi_bastore C hdec hn K
  case lastore => simp only [zil, beq_iff_eq] at hlen; subst hlen; exact zi_lastore C hdec hn K
  case aastore => simp only [zil, beq_iff_eq] at hlen; subst hlen; exact zi_aastore C hdec hn K
  case iconst k => simp only [zil, beq_iff_eq] at hlen; subst hlen; exact zi_iconst C hdec hn K
  case bipush k => simp only [zil, beq_iff_eq] at hlen; subst hlen; exact zi_bipush C hdec hn K
  case sipush k => simp only [zil, beq_iff_eq] at hlen; subst hlen; exact zi_sipush C hdec hn K
  case lconst k => simp only [zil, beq_iff_eq] at hlen; subst hlen; exact zi_lconst C hdec hn K
  case iload k => simp only [zil, beq_iff_eq] at hlen; subst hlen; exact zi_iload C hdec hn K
  case iload_n k => simp only [zil, beq_iff_eq] at hlen; subst hlen; exact zi_iload_n C hdec hn K
  case aload k => simp only [zil, beq_iff_eq] at hlen; subst hlen; exact zi_aload C hdec hn K
  case aload_n k => simp only [zil, beq_iff_eq] at hlen; subst hlen; exact zi_aload_n C hdec hn K
  case istore k => simp only [zil, beq_iff_eq] at hlen; subst hlen; exact zi_istore C hdec hn K
  case istore_n k => simp only [zil, beq_iff_eq] at hlen; subst hlen; exact zi_istore_n C hdec hn K
  case astore k => simp only [zil, beq_iff_eq] at hlen; subst hlen; exact zi_astore C hdec hn K
  case astore_n k => simp only [zil, beq_iff_eq] at hlen; subst hlen; exact zi_astore_n C hdec hn K
  case iinc k z => simp only [zil, beq_iff_eq] at hlen; subst hlen; exact zi_iinc C hdec hn K
  case goto off => simp only [zil, beq_iff_eq] at hlen; subst hlen; exact zi_goto C hdec hn K
  case newarray t => simp only [zil, beq_iff_eq] at hlen; subst hlen; exact zi_newarray C hdec hn K
  case tableswitch dflt lo hi offs => exact zi_tsw C hdec hn K
  case if_icmp cd off =>
    simp only [zil, beq_iff_eq] at hlen; subst hlen
    simp only [zjk, decide_eq_true_eq] at hjk
    cases cd
    case eq => exact zi_icmp_eq C hdec hjk hn K
    case ne => exact zi_icmp_ne C hdec hjk hn K
    case lt => exact zi_icmp_lt C hdec hjk hn K
    case ge => exact zi_icmp_ge C hdec hjk hn K
    case gt => exact zi_icmp_gt C hdec hjk hn K
    case le => exact zi_icmp_le C hdec hjk hn K
  case ifCond cd off =>
    simp only [zil, beq_iff_eq] at hlen; subst hlen
    simp only [zjk, decide_eq_true_eq] at hjk
    cases cd
    case eq => exact zi_if_eq C hdec hjk hn K
    case ne => exact zi_if_ne C hdec hjk hn K
    case lt => exact zi_if_lt C hdec hjk hn K
    case ge => exact zi_if_ge C hdec hjk hn K
    case gt => exact zi_if_gt C hdec hjk hn K
    case le => exact zi_if_le C hdec hjk hn K
  case getfield k =>
    simp only [zil, Bool.and_eq_true, beq_iff_eq, decide_eq_true_eq] at hlen
    obtain ⟨rfl, hk⟩ := hlen
    simp only [zres] at hn
    split at hn
    · next r hz => exact zi_getfield C hk hz hdec hn K
    · simp [znx] at hn
  case putfield k =>
    simp only [zil, Bool.and_eq_true, beq_iff_eq, decide_eq_true_eq] at hlen
    obtain ⟨rfl, hk⟩ := hlen
    simp only [zres] at hn
    split at hn
    · next r hz => exact zi_putfield C hk hz hdec hn K
    · simp [znx] at hn
  case getstatic k =>
    simp only [zil, Bool.and_eq_true, beq_iff_eq, decide_eq_true_eq] at hlen
    obtain ⟨rfl, hk⟩ := hlen
    simp only [zres] at hn
    split at hn
    · next r hz => exact zi_getstatic C hk hz hdec hn K
    · simp [znx] at hn
  case anewarray k =>
    simp only [zil, Bool.and_eq_true, beq_iff_eq, decide_eq_true_eq] at hlen
    obtain ⟨rfl, hk⟩ := hlen
    simp only [zres] at hn
    split at hn
    · next r hz => exact zi_anewarray C hk hz hdec hn K
    · simp [znx] at hn
  case new k =>
    simp only [zil, Bool.and_eq_true, beq_iff_eq, decide_eq_true_eq] at hlen
    obtain ⟨rfl, hk⟩ := hlen
    simp only [zres] at hn
    split at hn
    · next r hz => exact zi_new C hk hz hdec hn K
    · split at hn
      · next r hz =>
        have : ¬ 100 + r < 11 := by omega
        simp [znx, this] at hn
      · simp [znx] at hn
  case ldc k =>
    simp only [zil, Bool.and_eq_true, beq_iff_eq, decide_eq_true_eq] at hlen
    obtain ⟨rfl, hk⟩ := hlen
    simp only [zres] at hn
    split at hn
    · next r hz => exact zi_ldc C hk (Or.inl hz) hdec hn K
    · split at hn
      · next r hz => exact zi_ldc C hk (Or.inr ⟨r, rfl, hz⟩) hdec hn K
      · simp [znx] at hn
  case ldc_w k =>
    simp only [zil, Bool.and_eq_true, beq_iff_eq, decide_eq_true_eq] at hlen
    obtain ⟨rfl, hk⟩ := hlen
    simp only [zres] at hn
    split at hn
    · next r hz => exact zi_ldc_w C hk (Or.inl hz) hdec hn K
    · split at hn
      · next r hz => exact zi_ldc_w C hk (Or.inr ⟨r, rfl, hz⟩) hdec hn K
      · simp [znx] at hn
  case invokevirtual k =>
    simp only [zil, Bool.and_eq_true, beq_iff_eq, decide_eq_true_eq] at hlen
    obtain ⟨rfl, hk⟩ := hlen
    simp only [zres] at hn
    split at hn
    · split at hn <;> simp [znx] at hn
    · simp [znx] at hn
  case invokestatic k =>
    simp only [zil, Bool.and_eq_true, beq_iff_eq, decide_eq_true_eq] at hlen
    obtain ⟨rfl, hk⟩ := hlen
    simp only [zres] at hn
    split at hn
    · next r hz =>
      split at hn
      · exact zi_intr C hk hz hdec hn K
      · simp [znx] at hn
    · simp [znx] at hn
  case invokespecial k =>
    simp only [zil, Bool.and_eq_true, beq_iff_eq, decide_eq_true_eq] at hlen
    obtain ⟨rfl, hk⟩ := hlen
    simp only [zres] at hn
    split at hn
    · next r hz =>
      split at hn
      · exact zi_objInit C hk hz hdec hn K
      · simp [znx] at hn
    · split at hn
      · next r hz =>
        split at hn
        · have : ¬ 2000 + r = 1000 := by omega
          simp [znx, this] at hn
        · simp [znx] at hn
      · simp [znx] at hn
  all_goals (simp [zres, znx] at hn)
end ZN
