section VMC
variable {M : mM} {d pc : Nat} {L S : List mV} {h : mH} {Q : Option mV → mH → Prop}
theorem Wp.iconst {n : Int} (hd : decode M.2.1 pc = .ok (.iconst n, 1)) (hr : w32 n = n) (k : Wp M d (pc + 1) L ((0, n) :: S) h Q) : Wp M d pc L S h Q := by
  refine k.step ?_
  intro D sz h0 p l e R s m args below meth c Qw C H locs cells slots ls st a2 a3 a4 a1 kk
  exact lv_iconst C.1 C.2.1 hd rfl (kk ls _ a2 ⟨mI ((t32 n).trans hr), a3⟩ a4)
theorem Wp.bipush {n : Int} (hd : decode M.2.1 pc = .ok (.bipush n, 2)) (hr : (Int8.ofInt n).toInt32.toInt = n) (k : Wp M d (pc + 2) L ((0, n) :: S) h Q) : Wp M d pc L S h Q := by
  refine k.step ?_
  intro D sz h0 p l e R s m args below meth c Qw C H locs cells slots ls st a2 a3 a4 a1 kk
  exact lv_bipush C.1 C.2.1 hd rfl (kk ls _ a2 ⟨mI hr, a3⟩ a4)
theorem Wp.sipush {n : Int} (hd : decode M.2.1 pc = .ok (.sipush n, 3)) (hr : (Int16.ofInt n).toInt32.toInt = n) (k : Wp M d (pc + 3) L ((0, n) :: S) h Q) : Wp M d pc L S h Q := by
  refine k.step ?_
  intro D sz h0 p l e R s m args below meth c Qw C H locs cells slots ls st a2 a3 a4 a1 kk
  exact lv_sipush C.1 C.2.1 hd rfl (kk ls _ a2 ⟨mI hr, a3⟩ a4)
theorem Wp.lconst {n : Fin 2} {z : Int} (hd : decode M.2.1 pc = .ok (.lconst n, 1)) (hr : (Int64.ofNat n).toInt = z) (k : Wp M d (pc + 1) L ((1, z) :: S) h Q) : Wp M d pc L S h Q := by
  refine k.step ?_
  intro D sz h0 p l e R s m args below meth c Qw C H locs cells slots ls st a2 a3 a4 a1 kk
  exact lv_lconst C.1 C.2.1 hd rfl (kk ls _ a2 ⟨mL hr, a3⟩ a4)
theorem Wp.null (hd : decode M.2.1 pc = .ok (.aconst_null, 1)) (k : Wp M d (pc + 1) L ((2, -1) :: S) h Q) : Wp M d pc L S h Q := by
  refine k.step ?_
  intro D sz h0 p l e R s m args below meth c Qw C H locs cells slots ls st a2 a3 a4 a1 kk
  exact lv_null C.1 C.2.1 hd (kk ls _ a2 ⟨rfl, a3⟩ a4)
theorem Wp.ldc {ix : Nat} {v : Int32} {z : Int} (hw : Cond.constant M.1.cls ix v ∈ tW) (hz : v.toInt = z) (hd : decode M.2.1 pc = .ok (.ldc ix, 2)) (k : Wp M d (pc + 2) L ((0, z) :: S) h Q) : Wp M d pc L S h Q := by
  refine k.step ?_
  intro D sz h0 p l e R s m args below meth c Qw C H locs cells slots ls st a2 a3 a4 a1 kk
  obtain ⟨hx, hb, -, ho, ht, -⟩ := C
  exact lv_ldc hx hb ho (ht _ hw) hd (kk ls _ a2 ⟨mI hz, a3⟩ a4)
theorem Wp.ldcw {ix : Nat} {v : Int32} {z : Int} (hw : Cond.constant M.1.cls ix v ∈ tW) (hz : v.toInt = z) (hd : decode M.2.1 pc = .ok (.ldc_w ix, 3)) (k : Wp M d (pc + 3) L ((0, z) :: S) h Q) : Wp M d pc L S h Q := by
  refine k.step ?_
  intro D sz h0 p l e R s m args below meth c Qw C H locs cells slots ls st a2 a3 a4 a1 kk
  obtain ⟨hx, hb, -, ho, ht, -⟩ := C
  exact lv_ldcw hx hb ho (ht _ hw) hd (kk ls _ a2 ⟨mI hz, a3⟩ a4)
theorem Wp.ldc2 {ix : Nat} {v : Int64} {z : Int} (hw : Cond.constantLong M.1.cls ix v ∈ tW) (hz : v.toInt = z) (hd : decode M.2.1 pc = .ok (.ldc2_w ix, 3)) (k : Wp M d (pc + 3) L ((1, z) :: S) h Q) : Wp M d pc L S h Q := by
  refine k.step ?_
  intro D sz h0 p l e R s m args below meth c Qw C H locs cells slots ls st a2 a3 a4 a1 kk
  obtain ⟨hx, hb, -, ho, ht, -⟩ := C
  exact lv_ldc2 hx hb ho (ht _ hw) hd (kk ls _ a2 ⟨mL hz, a3⟩ a4)
theorem Wp.ild_n {j : Fin 4} {x : Int} (hl : L[(j : Nat)]? = some (0, x)) (hd : decode M.2.1 pc = .ok (.iload_n j, 1)) (k : Wp M d (pc + 1) L ((0, x) :: S) h Q) : Wp M d pc L S h Q := by
  refine k.step ?_
  intro D sz h0 p l e R s m args below meth c Qw C H locs cells slots ls st a2 a3 a4 a1 kk
  obtain ⟨v, hv, q⟩ := a2.2.2 _ _ hl (show 0 < 3 by decide)
  obtain ⟨y, rfl, ey⟩ := rV_i q
  exact lv_iload_n C.1 C.2.1 hd rfl hv (kk ls _ a2 ⟨q, a3⟩ a4)
theorem Wp.ild {j : Nat} {x : Int} (hl : L[j]? = some (0, x)) (hd : decode M.2.1 pc = .ok (.iload j, 2)) (k : Wp M d (pc + 2) L ((0, x) :: S) h Q) : Wp M d pc L S h Q := by
  refine k.step ?_
  intro D sz h0 p l e R s m args below meth c Qw C H locs cells slots ls st a2 a3 a4 a1 kk
  obtain ⟨v, hv, q⟩ := a2.2.2 _ _ hl (show 0 < 3 by decide)
  obtain ⟨y, rfl, ey⟩ := rV_i q
  exact lv_iload C.1 C.2.1 hd hv (kk ls _ a2 ⟨q, a3⟩ a4)
theorem Wp.lld_n {j : Fin 4} {x : Int} (hl : L[(j : Nat)]? = some (1, x)) (hd : decode M.2.1 pc = .ok (.lload_n j, 1)) (k : Wp M d (pc + 1) L ((1, x) :: S) h Q) : Wp M d pc L S h Q := by
  refine k.step ?_
  intro D sz h0 p l e R s m args below meth c Qw C H locs cells slots ls st a2 a3 a4 a1 kk
  obtain ⟨v, hv, q⟩ := a2.2.2 _ _ hl (show 1 < 3 by decide)
  obtain ⟨y, rfl, ey⟩ := rV_l q
  exact lv_lload_n C.1 C.2.1 hd rfl hv (kk ls _ a2 ⟨q, a3⟩ a4)
theorem Wp.lld {j : Nat} {x : Int} (hl : L[j]? = some (1, x)) (hd : decode M.2.1 pc = .ok (.lload j, 2)) (k : Wp M d (pc + 2) L ((1, x) :: S) h Q) : Wp M d pc L S h Q := by
  refine k.step ?_
  intro D sz h0 p l e R s m args below meth c Qw C H locs cells slots ls st a2 a3 a4 a1 kk
  obtain ⟨v, hv, q⟩ := a2.2.2 _ _ hl (show 1 < 3 by decide)
  obtain ⟨y, rfl, ey⟩ := rV_l q
  exact lv_lload C.1 C.2.1 hd hv (kk ls _ a2 ⟨q, a3⟩ a4)
theorem Wp.ald_n {j : Fin 4} {x : Int} (hl : L[(j : Nat)]? = some (2, x)) (hd : decode M.2.1 pc = .ok (.aload_n j, 1)) (k : Wp M d (pc + 1) L ((2, x) :: S) h Q) : Wp M d pc L S h Q := by
  refine k.step ?_
  intro D sz h0 p l e R s m args below meth c Qw C H locs cells slots ls st a2 a3 a4 a1 kk
  obtain ⟨v, hv, q⟩ := a2.2.2 _ _ hl (show 2 < 3 by decide)
  rcases rV_r q with ⟨-, rfl⟩ | ⟨-, rfl⟩
  · exact lv_aload_nN C.1 C.2.1 hd rfl hv (kk ls _ a2 ⟨q, a3⟩ a4)
  · exact lv_aload_n C.1 C.2.1 hd rfl hv (kk ls _ a2 ⟨q, a3⟩ a4)
theorem Wp.ald {j : Nat} {x : Int} (hl : L[j]? = some (2, x)) (hd : decode M.2.1 pc = .ok (.aload j, 2)) (k : Wp M d (pc + 2) L ((2, x) :: S) h Q) : Wp M d pc L S h Q := by
  refine k.step ?_
  intro D sz h0 p l e R s m args below meth c Qw C H locs cells slots ls st a2 a3 a4 a1 kk
  obtain ⟨v, hv, q⟩ := a2.2.2 _ _ hl (show 2 < 3 by decide)
  rcases rV_r q with ⟨-, rfl⟩ | ⟨-, rfl⟩
  · exact lv_aloadN C.1 C.2.1 hd hv (kk ls _ a2 ⟨q, a3⟩ a4)
  · exact lv_aload C.1 C.2.1 hd hv (kk ls _ a2 ⟨q, a3⟩ a4)
theorem Wp.iadd {a b : Int} (hd : decode M.2.1 pc = .ok (.iadd, 1)) (k : Wp M d (pc + 1) L ((0, w32 (a + b)) :: S) h Q) : Wp M d pc L ((0, b) :: (0, a) :: S) h Q := by
  refine k.step ?_
  intro D sz h0 p l e R s m args below meth c Qw C H locs cells slots ls st a2 a3 a4 a1 kk
  obtain ⟨_, r0, rfl, q0, b0⟩ := rSt_c a3
  obtain ⟨x0, rfl, e0⟩ := rV_i q0
  obtain ⟨_, r1, rfl, q1, b1⟩ := rSt_c b0
  obtain ⟨x1, rfl, e1⟩ := rV_i q1
  exact lv_iadd C.1 C.2.1 hd (kk ls _ a2 ⟨mI (add32 e1 e0), b1⟩ a4)
theorem Wp.isub {a b : Int} (hd : decode M.2.1 pc = .ok (.isub, 1)) (k : Wp M d (pc + 1) L ((0, w32 (a - b)) :: S) h Q) : Wp M d pc L ((0, b) :: (0, a) :: S) h Q := by
  refine k.step ?_
  intro D sz h0 p l e R s m args below meth c Qw C H locs cells slots ls st a2 a3 a4 a1 kk
  obtain ⟨_, r0, rfl, q0, b0⟩ := rSt_c a3
  obtain ⟨x0, rfl, e0⟩ := rV_i q0
  obtain ⟨_, r1, rfl, q1, b1⟩ := rSt_c b0
  obtain ⟨x1, rfl, e1⟩ := rV_i q1
  exact lv_isub C.1 C.2.1 hd (kk ls _ a2 ⟨mI (sub32 e1 e0), b1⟩ a4)
theorem Wp.imul {a b : Int} (hd : decode M.2.1 pc = .ok (.imul, 1)) (k : Wp M d (pc + 1) L ((0, w32 (a * b)) :: S) h Q) : Wp M d pc L ((0, b) :: (0, a) :: S) h Q := by
  refine k.step ?_
  intro D sz h0 p l e R s m args below meth c Qw C H locs cells slots ls st a2 a3 a4 a1 kk
  obtain ⟨_, r0, rfl, q0, b0⟩ := rSt_c a3
  obtain ⟨x0, rfl, e0⟩ := rV_i q0
  obtain ⟨_, r1, rfl, q1, b1⟩ := rSt_c b0
  obtain ⟨x1, rfl, e1⟩ := rV_i q1
  exact lv_imul C.1 C.2.1 hd (kk ls _ a2 ⟨mI (mul32 e1 e0), b1⟩ a4)
theorem Wp.ladd {a b : Int} (hd : decode M.2.1 pc = .ok (.ladd, 1)) (k : Wp M d (pc + 1) L ((1, w64 (a + b)) :: S) h Q) : Wp M d pc L ((1, b) :: (1, a) :: S) h Q := by
  refine k.step ?_
  intro D sz h0 p l e R s m args below meth c Qw C H locs cells slots ls st a2 a3 a4 a1 kk
  obtain ⟨_, r0, rfl, q0, b0⟩ := rSt_c a3
  obtain ⟨x0, rfl, e0⟩ := rV_l q0
  obtain ⟨_, r1, rfl, q1, b1⟩ := rSt_c b0
  obtain ⟨x1, rfl, e1⟩ := rV_l q1
  exact lv_ladd C.1 C.2.1 hd (kk ls _ a2 ⟨mL (add64 e1 e0), b1⟩ a4)
theorem Wp.lsub {a b : Int} (hd : decode M.2.1 pc = .ok (.lsub, 1)) (k : Wp M d (pc + 1) L ((1, w64 (a - b)) :: S) h Q) : Wp M d pc L ((1, b) :: (1, a) :: S) h Q := by
  refine k.step ?_
  intro D sz h0 p l e R s m args below meth c Qw C H locs cells slots ls st a2 a3 a4 a1 kk
  obtain ⟨_, r0, rfl, q0, b0⟩ := rSt_c a3
  obtain ⟨x0, rfl, e0⟩ := rV_l q0
  obtain ⟨_, r1, rfl, q1, b1⟩ := rSt_c b0
  obtain ⟨x1, rfl, e1⟩ := rV_l q1
  exact lv_lsub C.1 C.2.1 hd (kk ls _ a2 ⟨mL (sub64 e1 e0), b1⟩ a4)
theorem Wp.lmul {a b : Int} (hd : decode M.2.1 pc = .ok (.lmul, 1)) (k : Wp M d (pc + 1) L ((1, w64 (a * b)) :: S) h Q) : Wp M d pc L ((1, b) :: (1, a) :: S) h Q := by
  refine k.step ?_
  intro D sz h0 p l e R s m args below meth c Qw C H locs cells slots ls st a2 a3 a4 a1 kk
  obtain ⟨_, r0, rfl, q0, b0⟩ := rSt_c a3
  obtain ⟨x0, rfl, e0⟩ := rV_l q0
  obtain ⟨_, r1, rfl, q1, b1⟩ := rSt_c b0
  obtain ⟨x1, rfl, e1⟩ := rV_l q1
  exact lv_lmul C.1 C.2.1 hd (kk ls _ a2 ⟨mL (mul64 e1 e0), b1⟩ a4)
theorem Wp.idiv {a b : Int} (hd : decode M.2.1 pc = .ok (.idiv, 1)) (hne : b ≠ 0) (k : Wp M d (pc + 1) L ((0, w32 (a.tdiv b)) :: S) h Q) : Wp M d pc L ((0, b) :: (0, a) :: S) h Q := by
  refine k.step ?_
  intro D sz h0 p l e R s m args below meth c Qw C H locs cells slots ls st a2 a3 a4 a1 kk
  obtain ⟨_, r0, rfl, q0, b0⟩ := rSt_c a3
  obtain ⟨x0, rfl, e0⟩ := rV_i q0
  obtain ⟨_, r1, rfl, q1, b1⟩ := rSt_c b0
  obtain ⟨x1, rfl, e1⟩ := rV_i q1
  have hz : ¬ x0 = 0 := fun q => hne (by rw [← e0, q]; rfl)
  exact lv_idiv C.1 C.2.1 hd hz (kk ls _ a2 ⟨mI (div32 e1 e0), b1⟩ a4)
theorem Wp.irem {a b : Int} (hd : decode M.2.1 pc = .ok (.irem, 1)) (hne : b ≠ 0) (k : Wp M d (pc + 1) L ((0, a.tmod b) :: S) h Q) : Wp M d pc L ((0, b) :: (0, a) :: S) h Q := by
  refine k.step ?_
  intro D sz h0 p l e R s m args below meth c Qw C H locs cells slots ls st a2 a3 a4 a1 kk
  obtain ⟨_, r0, rfl, q0, b0⟩ := rSt_c a3
  obtain ⟨x0, rfl, e0⟩ := rV_i q0
  obtain ⟨_, r1, rfl, q1, b1⟩ := rSt_c b0
  obtain ⟨x1, rfl, e1⟩ := rV_i q1
  have hz : ¬ x0 = 0 := fun q => hne (by rw [← e0, q]; rfl)
  exact lv_irem C.1 C.2.1 hd hz (kk ls _ a2 ⟨mI (rem32 e1 e0), b1⟩ a4)
theorem Wp.ldiv {a b : Int} (hd : decode M.2.1 pc = .ok (.ldiv, 1)) (hne : b ≠ 0) (k : Wp M d (pc + 1) L ((1, w64 (a.tdiv b)) :: S) h Q) : Wp M d pc L ((1, b) :: (1, a) :: S) h Q := by
  refine k.step ?_
  intro D sz h0 p l e R s m args below meth c Qw C H locs cells slots ls st a2 a3 a4 a1 kk
  obtain ⟨_, r0, rfl, q0, b0⟩ := rSt_c a3
  obtain ⟨x0, rfl, e0⟩ := rV_l q0
  obtain ⟨_, r1, rfl, q1, b1⟩ := rSt_c b0
  obtain ⟨x1, rfl, e1⟩ := rV_l q1
  have hz : ¬ x0 = 0 := fun q => hne (by rw [← e0, q]; rfl)
  exact lv_ldiv C.1 C.2.1 hd hz (kk ls _ a2 ⟨mL (div64 e1 e0), b1⟩ a4)
theorem Wp.lrem {a b : Int} (hd : decode M.2.1 pc = .ok (.lrem, 1)) (hne : b ≠ 0) (k : Wp M d (pc + 1) L ((1, a.tmod b) :: S) h Q) : Wp M d pc L ((1, b) :: (1, a) :: S) h Q := by
  refine k.step ?_
  intro D sz h0 p l e R s m args below meth c Qw C H locs cells slots ls st a2 a3 a4 a1 kk
  obtain ⟨_, r0, rfl, q0, b0⟩ := rSt_c a3
  obtain ⟨x0, rfl, e0⟩ := rV_l q0
  obtain ⟨_, r1, rfl, q1, b1⟩ := rSt_c b0
  obtain ⟨x1, rfl, e1⟩ := rV_l q1
  have hz : ¬ x0 = 0 := fun q => hne (by rw [← e0, q]; rfl)
  exact lv_lrem C.1 C.2.1 hd hz (kk ls _ a2 ⟨mL (rem64 e1 e0), b1⟩ a4)
theorem Wp.iand {a b : Int} (hd : decode M.2.1 pc = .ok (.iand, 1)) (k : Wp M d (pc + 1) L ((0, kand a b) :: S) h Q) : Wp M d pc L ((0, b) :: (0, a) :: S) h Q := by
  refine k.step ?_
  intro D sz h0 p l e R s m args below meth c Qw C H locs cells slots ls st a2 a3 a4 a1 kk
  obtain ⟨_, r0, rfl, q0, b0⟩ := rSt_c a3
  obtain ⟨x0, rfl, e0⟩ := rV_i q0
  obtain ⟨_, r1, rfl, q1, b1⟩ := rSt_c b0
  obtain ⟨x1, rfl, e1⟩ := rV_i q1
  exact lv_iand C.1 C.2.1 hd (kk ls _ a2 ⟨mI (by unfold kand; rw [o32 e1, o32 e0]), b1⟩ a4)
theorem Wp.ior {a b : Int} (hd : decode M.2.1 pc = .ok (.ior, 1)) (k : Wp M d (pc + 1) L ((0, kor a b) :: S) h Q) : Wp M d pc L ((0, b) :: (0, a) :: S) h Q := by
  refine k.step ?_
  intro D sz h0 p l e R s m args below meth c Qw C H locs cells slots ls st a2 a3 a4 a1 kk
  obtain ⟨_, r0, rfl, q0, b0⟩ := rSt_c a3
  obtain ⟨x0, rfl, e0⟩ := rV_i q0
  obtain ⟨_, r1, rfl, q1, b1⟩ := rSt_c b0
  obtain ⟨x1, rfl, e1⟩ := rV_i q1
  exact lv_ior C.1 C.2.1 hd (kk ls _ a2 ⟨mI (by unfold kor; rw [o32 e1, o32 e0]), b1⟩ a4)
theorem Wp.ixor {a b : Int} (hd : decode M.2.1 pc = .ok (.ixor, 1)) (k : Wp M d (pc + 1) L ((0, kxor a b) :: S) h Q) : Wp M d pc L ((0, b) :: (0, a) :: S) h Q := by
  refine k.step ?_
  intro D sz h0 p l e R s m args below meth c Qw C H locs cells slots ls st a2 a3 a4 a1 kk
  obtain ⟨_, r0, rfl, q0, b0⟩ := rSt_c a3
  obtain ⟨x0, rfl, e0⟩ := rV_i q0
  obtain ⟨_, r1, rfl, q1, b1⟩ := rSt_c b0
  obtain ⟨x1, rfl, e1⟩ := rV_i q1
  exact lv_ixor C.1 C.2.1 hd (kk ls _ a2 ⟨mI (by unfold kxor; rw [o32 e1, o32 e0]), b1⟩ a4)
theorem Wp.land {a b : Int} (hd : decode M.2.1 pc = .ok (.land, 1)) (k : Wp M d (pc + 1) L ((1, qand a b) :: S) h Q) : Wp M d pc L ((1, b) :: (1, a) :: S) h Q := by
  refine k.step ?_
  intro D sz h0 p l e R s m args below meth c Qw C H locs cells slots ls st a2 a3 a4 a1 kk
  obtain ⟨_, r0, rfl, q0, b0⟩ := rSt_c a3
  obtain ⟨x0, rfl, e0⟩ := rV_l q0
  obtain ⟨_, r1, rfl, q1, b1⟩ := rSt_c b0
  obtain ⟨x1, rfl, e1⟩ := rV_l q1
  exact lv_land C.1 C.2.1 hd (kk ls _ a2 ⟨mL (by unfold qand; rw [o64 e1, o64 e0]), b1⟩ a4)
theorem Wp.lor {a b : Int} (hd : decode M.2.1 pc = .ok (.lor, 1)) (k : Wp M d (pc + 1) L ((1, qor a b) :: S) h Q) : Wp M d pc L ((1, b) :: (1, a) :: S) h Q := by
  refine k.step ?_
  intro D sz h0 p l e R s m args below meth c Qw C H locs cells slots ls st a2 a3 a4 a1 kk
  obtain ⟨_, r0, rfl, q0, b0⟩ := rSt_c a3
  obtain ⟨x0, rfl, e0⟩ := rV_l q0
  obtain ⟨_, r1, rfl, q1, b1⟩ := rSt_c b0
  obtain ⟨x1, rfl, e1⟩ := rV_l q1
  exact lv_lor C.1 C.2.1 hd (kk ls _ a2 ⟨mL (by unfold qor; rw [o64 e1, o64 e0]), b1⟩ a4)
theorem Wp.lxor {a b : Int} (hd : decode M.2.1 pc = .ok (.lxor, 1)) (k : Wp M d (pc + 1) L ((1, qxor a b) :: S) h Q) : Wp M d pc L ((1, b) :: (1, a) :: S) h Q := by
  refine k.step ?_
  intro D sz h0 p l e R s m args below meth c Qw C H locs cells slots ls st a2 a3 a4 a1 kk
  obtain ⟨_, r0, rfl, q0, b0⟩ := rSt_c a3
  obtain ⟨x0, rfl, e0⟩ := rV_l q0
  obtain ⟨_, r1, rfl, q1, b1⟩ := rSt_c b0
  obtain ⟨x1, rfl, e1⟩ := rV_l q1
  exact lv_lxor C.1 C.2.1 hd (kk ls _ a2 ⟨mL (by unfold qxor; rw [o64 e1, o64 e0]), b1⟩ a4)
theorem Wp.ishl {a b : Int} (hd : decode M.2.1 pc = .ok (.ishl, 1)) (k : Wp M d (pc + 1) L ((0, kshl a b) :: S) h Q) : Wp M d pc L ((0, b) :: (0, a) :: S) h Q := by
  refine k.step ?_
  intro D sz h0 p l e R s m args below meth c Qw C H locs cells slots ls st a2 a3 a4 a1 kk
  obtain ⟨_, r0, rfl, q0, b0⟩ := rSt_c a3
  obtain ⟨x0, rfl, e0⟩ := rV_i q0
  obtain ⟨_, r1, rfl, q1, b1⟩ := rSt_c b0
  obtain ⟨x1, rfl, e1⟩ := rV_i q1
  exact lv_ishl C.1 C.2.1 hd (kk ls _ a2 ⟨mI (by unfold kshl; rw [o32 e1, o32 e0]), b1⟩ a4)
theorem Wp.ishr {a b : Int} (hd : decode M.2.1 pc = .ok (.ishr, 1)) (k : Wp M d (pc + 1) L ((0, kshr a b) :: S) h Q) : Wp M d pc L ((0, b) :: (0, a) :: S) h Q := by
  refine k.step ?_
  intro D sz h0 p l e R s m args below meth c Qw C H locs cells slots ls st a2 a3 a4 a1 kk
  obtain ⟨_, r0, rfl, q0, b0⟩ := rSt_c a3
  obtain ⟨x0, rfl, e0⟩ := rV_i q0
  obtain ⟨_, r1, rfl, q1, b1⟩ := rSt_c b0
  obtain ⟨x1, rfl, e1⟩ := rV_i q1
  exact lv_ishr C.1 C.2.1 hd (kk ls _ a2 ⟨mI (by unfold kshr; rw [o32 e1, o32 e0]), b1⟩ a4)
theorem Wp.iushr {a b : Int} (hd : decode M.2.1 pc = .ok (.iushr, 1)) (k : Wp M d (pc + 1) L ((0, kushr a b) :: S) h Q) : Wp M d pc L ((0, b) :: (0, a) :: S) h Q := by
  refine k.step ?_
  intro D sz h0 p l e R s m args below meth c Qw C H locs cells slots ls st a2 a3 a4 a1 kk
  obtain ⟨_, r0, rfl, q0, b0⟩ := rSt_c a3
  obtain ⟨x0, rfl, e0⟩ := rV_i q0
  obtain ⟨_, r1, rfl, q1, b1⟩ := rSt_c b0
  obtain ⟨x1, rfl, e1⟩ := rV_i q1
  exact lv_iushr C.1 C.2.1 hd rfl (kk ls _ a2 ⟨mI (by unfold kushr; rw [o32 e1, o32 e0]), b1⟩ a4)
theorem Wp.lshl {a b : Int} (hd : decode M.2.1 pc = .ok (.lshl, 1)) (k : Wp M d (pc + 1) L ((1, qshl a b) :: S) h Q) : Wp M d pc L ((0, b) :: (1, a) :: S) h Q := by
  refine k.step ?_
  intro D sz h0 p l e R s m args below meth c Qw C H locs cells slots ls st a2 a3 a4 a1 kk
  obtain ⟨_, r0, rfl, q0, b0⟩ := rSt_c a3
  obtain ⟨x0, rfl, e0⟩ := rV_i q0
  obtain ⟨_, r1, rfl, q1, b1⟩ := rSt_c b0
  obtain ⟨x1, rfl, e1⟩ := rV_l q1
  exact lv_lshl C.1 C.2.1 hd rfl (kk ls _ a2 ⟨mL (by unfold qshl; rw [o64 e1, o32 e0]), b1⟩ a4)
theorem Wp.lshr {a b : Int} (hd : decode M.2.1 pc = .ok (.lshr, 1)) (k : Wp M d (pc + 1) L ((1, qshr a b) :: S) h Q) : Wp M d pc L ((0, b) :: (1, a) :: S) h Q := by
  refine k.step ?_
  intro D sz h0 p l e R s m args below meth c Qw C H locs cells slots ls st a2 a3 a4 a1 kk
  obtain ⟨_, r0, rfl, q0, b0⟩ := rSt_c a3
  obtain ⟨x0, rfl, e0⟩ := rV_i q0
  obtain ⟨_, r1, rfl, q1, b1⟩ := rSt_c b0
  obtain ⟨x1, rfl, e1⟩ := rV_l q1
  exact lv_lshr C.1 C.2.1 hd rfl (kk ls _ a2 ⟨mL (by unfold qshr; rw [o64 e1, o32 e0]), b1⟩ a4)
theorem Wp.lushr {a b : Int} (hd : decode M.2.1 pc = .ok (.lushr, 1)) (k : Wp M d (pc + 1) L ((1, qushr a b) :: S) h Q) : Wp M d pc L ((0, b) :: (1, a) :: S) h Q := by
  refine k.step ?_
  intro D sz h0 p l e R s m args below meth c Qw C H locs cells slots ls st a2 a3 a4 a1 kk
  obtain ⟨_, r0, rfl, q0, b0⟩ := rSt_c a3
  obtain ⟨x0, rfl, e0⟩ := rV_i q0
  obtain ⟨_, r1, rfl, q1, b1⟩ := rSt_c b0
  obtain ⟨x1, rfl, e1⟩ := rV_l q1
  exact lv_lushr C.1 C.2.1 hd rfl (kk ls _ a2 ⟨mL (by unfold qushr; rw [o64 e1, o32 e0]), b1⟩ a4)
theorem Wp.lcmp {a b : Int} (hd : decode M.2.1 pc = .ok (.lcmp, 1)) (k : Wp M d (pc + 1) L ((0, cmpL a b) :: S) h Q) : Wp M d pc L ((1, b) :: (1, a) :: S) h Q := by
  refine k.step ?_
  intro D sz h0 p l e R s m args below meth c Qw C H locs cells slots ls st a2 a3 a4 a1 kk
  obtain ⟨_, r0, rfl, q0, b0⟩ := rSt_c a3
  obtain ⟨x0, rfl, e0⟩ := rV_l q0
  obtain ⟨_, r1, rfl, q1, b1⟩ := rSt_c b0
  obtain ⟨x1, rfl, e1⟩ := rV_l q1
  exact W.lcmp C.1 C.2.1 hd (kk ls _ a2 ⟨mI (cmpL_of e1 e0), b1⟩ a4)
theorem Wp.ineg {a : Int} (hd : decode M.2.1 pc = .ok (.ineg, 1)) (k : Wp M d (pc + 1) L ((0, w32 (-a)) :: S) h Q) : Wp M d pc L ((0, a) :: S) h Q := by
  refine k.step ?_
  intro D sz h0 p l e R s m args below meth c Qw C H locs cells slots ls st a2 a3 a4 a1 kk
  obtain ⟨_, r0, rfl, q0, b0⟩ := rSt_c a3
  obtain ⟨x0, rfl, e0⟩ := rV_i q0
  exact lv_ineg C.1 C.2.1 hd (kk ls _ a2 ⟨mI (neg32 e0), b0⟩ a4)
theorem Wp.i2l {a : Int} (hd : decode M.2.1 pc = .ok (.i2l, 1)) (k : Wp M d (pc + 1) L ((1, a) :: S) h Q) : Wp M d pc L ((0, a) :: S) h Q := by
  refine k.step ?_
  intro D sz h0 p l e R s m args below meth c Qw C H locs cells slots ls st a2 a3 a4 a1 kk
  obtain ⟨_, r0, rfl, q0, b0⟩ := rSt_c a3
  obtain ⟨x0, rfl, e0⟩ := rV_i q0
  exact lv_i2l C.1 C.2.1 hd rfl (kk ls _ a2 ⟨mL (by rw [Int32.toInt_toInt64]; exact e0), b0⟩ a4)
theorem Wp.l2i {a : Int} (hd : decode M.2.1 pc = .ok (.l2i, 1)) (k : Wp M d (pc + 1) L ((0, w32 a) :: S) h Q) : Wp M d pc L ((1, a) :: S) h Q := by
  refine k.step ?_
  intro D sz h0 p l e R s m args below meth c Qw C H locs cells slots ls st a2 a3 a4 a1 kk
  obtain ⟨_, r0, rfl, q0, b0⟩ := rSt_c a3
  obtain ⟨x0, rfl, e0⟩ := rV_l q0
  exact lv_l2i C.1 C.2.1 hd rfl (kk ls _ a2 ⟨mI (by rw [Int64.toInt_toInt32, e0]; exact bmod32 a), b0⟩ a4)
theorem Wp.i2b {a : Int} (hd : decode M.2.1 pc = .ok (.i2b, 1)) (k : Wp M d (pc + 1) L ((0, a.bmod 256) :: S) h Q) : Wp M d pc L ((0, a) :: S) h Q := by
  refine k.step ?_
  intro D sz h0 p l e R s m args below meth c Qw C H locs cells slots ls st a2 a3 a4 a1 kk
  obtain ⟨_, r0, rfl, q0, b0⟩ := rSt_c a3
  obtain ⟨x0, rfl, e0⟩ := rV_i q0
  exact lv_i2b C.1 C.2.1 hd rfl (kk ls _ a2 ⟨mI (by rw [lg_i2b_toInt, e0]), b0⟩ a4)
theorem Wp.i2s {a : Int} (hd : decode M.2.1 pc = .ok (.i2s, 1)) (k : Wp M d (pc + 1) L ((0, a.bmod 65536) :: S) h Q) : Wp M d pc L ((0, a) :: S) h Q := by
  refine k.step ?_
  intro D sz h0 p l e R s m args below meth c Qw C H locs cells slots ls st a2 a3 a4 a1 kk
  obtain ⟨_, r0, rfl, q0, b0⟩ := rSt_c a3
  obtain ⟨x0, rfl, e0⟩ := rV_i q0
  exact lv_i2s C.1 C.2.1 hd rfl (kk ls _ a2 ⟨mI (by rw [lg_i2s_toInt, e0]), b0⟩ a4)
theorem Wp.dup {v : mV} (hd : decode M.2.1 pc = .ok (.dup, 1)) (ht : v.1 = 0 ∨ v.1 = 2) (k : Wp M d (pc + 1) L (v :: v :: S) h Q) : Wp M d pc L (v :: S) h Q := by
  refine k.step ?_
  intro D sz h0 p l e R s m args below meth c Qw C H locs cells slots ls st a2 a3 a4 a1 kk
  obtain ⟨x, r, rfl, q, b0⟩ := rSt_c a3
  exact lv_dup C.1 C.2.1 hd (rV_cat1 q ht) (kk ls _ a2 ⟨q, q, b0⟩ a4)
theorem Wp.pop {v : mV} (hd : decode M.2.1 pc = .ok (.pop, 1)) (ht : v.1 = 0 ∨ v.1 = 2) (k : Wp M d (pc + 1) L S h Q) : Wp M d pc L (v :: S) h Q := by
  refine k.step ?_
  intro D sz h0 p l e R s m args below meth c Qw C H locs cells slots ls st a2 a3 a4 a1 kk
  obtain ⟨x, r, rfl, q, b0⟩ := rSt_c a3
  exact lv_pop C.1 C.2.1 hd (rV_cat1 q ht) (kk ls _ a2 b0 a4)
theorem Wp.pop2 {v : mV} (hd : decode M.2.1 pc = .ok (.pop2, 1)) (ht : v.1 = 1) (k : Wp M d (pc + 1) L S h Q) : Wp M d pc L (v :: S) h Q := by
  refine k.step ?_
  intro D sz h0 p l e R s m args below meth c Qw C H locs cells slots ls st a2 a3 a4 a1 kk
  obtain ⟨x, r, rfl, q, b0⟩ := rSt_c a3
  exact lv_pop2_2 C.1 C.2.1 hd (rV_cat2 q ht) (kk ls _ a2 b0 a4)
theorem Wp.dup2 {v u : mV} (hd : decode M.2.1 pc = .ok (.dup2, 1)) (ht : v.1 = 0 ∨ v.1 = 2) (hu : u.1 = 0 ∨ u.1 = 2) (k : Wp M d (pc + 1) L (v :: u :: v :: u :: S) h Q) : Wp M d pc L (v :: u :: S) h Q := by
  refine k.step ?_
  intro D sz h0 p l e R s m args below meth c Qw C H locs cells slots ls st a2 a3 a4 a1 kk
  obtain ⟨x, r, rfl, q, b0⟩ := rSt_c a3
  obtain ⟨y, r2, rfl, q2, b1⟩ := rSt_c b0
  exact lv_dup2_11 C.1 C.2.1 hd (rV_cat1 q ht) (rV_cat1 q2 hu) (kk ls _ a2 ⟨q, q2, q, q2, b1⟩ a4)
theorem Wp.iceq {a b : Int} {off : Int} {tgt : Nat} (hd : decode M.2.1 pc = .ok (.if_icmp .eq off, 3)) (ht : (pc : Int) + off = (tgt : Int)) (kt : a = b → Wp M d tgt L S h Q) (kf : ¬ a = b → Wp M d (pc + 3) L S h Q) : Wp M d pc L ((0, b) :: (0, a) :: S) h Q := by
  by_cases hc : a = b
  · refine (kt hc).step ?_
    intro D sz h0 p l e R s m args below meth c Qw C H locs cells slots ls st a2 a3 a4 a1 kk
    obtain ⟨_, r0, rfl, q0, b0⟩ := rSt_c a3
    obtain ⟨x0, rfl, e0⟩ := rV_i q0
    obtain ⟨_, r1, rfl, q1, b1⟩ := rSt_c b0
    obtain ⟨x1, rfl, e1⟩ := rV_i q1
    have hq : a = b ↔ x1 = x0 := by rw [← e1, ← e0]; exact Int32.toInt_inj
    exact lv_icmp_eq C.1 C.2.1 hd ht (fun _ => kk ls _ a2 b1 a4) (fun z => absurd (hq.mp hc) z)
  · refine (kf hc).step ?_
    intro D sz h0 p l e R s m args below meth c Qw C H locs cells slots ls st a2 a3 a4 a1 kk
    obtain ⟨_, r0, rfl, q0, b0⟩ := rSt_c a3
    obtain ⟨x0, rfl, e0⟩ := rV_i q0
    obtain ⟨_, r1, rfl, q1, b1⟩ := rSt_c b0
    obtain ⟨x1, rfl, e1⟩ := rV_i q1
    have hq : a = b ↔ x1 = x0 := by rw [← e1, ← e0]; exact Int32.toInt_inj
    exact lv_icmp_eq C.1 C.2.1 hd ht (fun z => absurd (hq.mpr z) hc) (fun _ => kk ls _ a2 b1 a4)
theorem Wp.ifeq {a : Int} {off : Int} {tgt : Nat} (hd : decode M.2.1 pc = .ok (.ifCond .eq off, 3)) (ht : (pc : Int) + off = (tgt : Int)) (kt : a = 0 → Wp M d tgt L S h Q) (kf : ¬ a = 0 → Wp M d (pc + 3) L S h Q) : Wp M d pc L ((0, a) :: S) h Q := by
  by_cases hc : a = 0
  · refine (kt hc).step ?_
    intro D sz h0 p l e R s m args below meth c Qw C H locs cells slots ls st a2 a3 a4 a1 kk
    obtain ⟨_, r0, rfl, q0, b0⟩ := rSt_c a3
    obtain ⟨x0, rfl, e0⟩ := rV_i q0
    have hq : a = 0 ↔ x0 = 0 := by rw [← e0]; exact Int32.toInt_inj (x := x0) (y := 0)
    exact lv_if_eq C.1 C.2.1 hd ht (fun _ => kk ls _ a2 b0 a4) (fun z => absurd (hq.mp hc) z)
  · refine (kf hc).step ?_
    intro D sz h0 p l e R s m args below meth c Qw C H locs cells slots ls st a2 a3 a4 a1 kk
    obtain ⟨_, r0, rfl, q0, b0⟩ := rSt_c a3
    obtain ⟨x0, rfl, e0⟩ := rV_i q0
    have hq : a = 0 ↔ x0 = 0 := by rw [← e0]; exact Int32.toInt_inj (x := x0) (y := 0)
    exact lv_if_eq C.1 C.2.1 hd ht (fun z => absurd (hq.mpr z) hc) (fun _ => kk ls _ a2 b0 a4)
theorem Wp.icne {a b : Int} {off : Int} {tgt : Nat} (hd : decode M.2.1 pc = .ok (.if_icmp .ne off, 3)) (ht : (pc : Int) + off = (tgt : Int)) (kt : a ≠ b → Wp M d tgt L S h Q) (kf : a = b → Wp M d (pc + 3) L S h Q) : Wp M d pc L ((0, b) :: (0, a) :: S) h Q := by
  by_cases hc : a = b
  · refine (kf hc).step ?_
    intro D sz h0 p l e R s m args below meth c Qw C H locs cells slots ls st a2 a3 a4 a1 kk
    obtain ⟨_, r0, rfl, q0, b0⟩ := rSt_c a3
    obtain ⟨x0, rfl, e0⟩ := rV_i q0
    obtain ⟨_, r1, rfl, q1, b1⟩ := rSt_c b0
    obtain ⟨x1, rfl, e1⟩ := rV_i q1
    have hq : a = b ↔ x1 = x0 := by rw [← e1, ← e0]; exact Int32.toInt_inj
    exact lv_icmp_ne C.1 C.2.1 hd ht (fun z => absurd (hq.mp hc) z) (fun _ => kk ls _ a2 b1 a4)
  · refine (kt hc).step ?_
    intro D sz h0 p l e R s m args below meth c Qw C H locs cells slots ls st a2 a3 a4 a1 kk
    obtain ⟨_, r0, rfl, q0, b0⟩ := rSt_c a3
    obtain ⟨x0, rfl, e0⟩ := rV_i q0
    obtain ⟨_, r1, rfl, q1, b1⟩ := rSt_c b0
    obtain ⟨x1, rfl, e1⟩ := rV_i q1
    have hq : a = b ↔ x1 = x0 := by rw [← e1, ← e0]; exact Int32.toInt_inj
    exact lv_icmp_ne C.1 C.2.1 hd ht (fun _ => kk ls _ a2 b1 a4) (fun z => absurd (hq.mpr z) hc)
theorem Wp.ifne {a : Int} {off : Int} {tgt : Nat} (hd : decode M.2.1 pc = .ok (.ifCond .ne off, 3)) (ht : (pc : Int) + off = (tgt : Int)) (kt : a ≠ 0 → Wp M d tgt L S h Q) (kf : a = 0 → Wp M d (pc + 3) L S h Q) : Wp M d pc L ((0, a) :: S) h Q := by
  by_cases hc : a = 0
  · refine (kf hc).step ?_
    intro D sz h0 p l e R s m args below meth c Qw C H locs cells slots ls st a2 a3 a4 a1 kk
    obtain ⟨_, r0, rfl, q0, b0⟩ := rSt_c a3
    obtain ⟨x0, rfl, e0⟩ := rV_i q0
    have hq : a = 0 ↔ x0 = 0 := by rw [← e0]; exact Int32.toInt_inj (x := x0) (y := 0)
    exact lv_if_ne C.1 C.2.1 hd ht (fun z => absurd (hq.mp hc) z) (fun _ => kk ls _ a2 b0 a4)
  · refine (kt hc).step ?_
    intro D sz h0 p l e R s m args below meth c Qw C H locs cells slots ls st a2 a3 a4 a1 kk
    obtain ⟨_, r0, rfl, q0, b0⟩ := rSt_c a3
    obtain ⟨x0, rfl, e0⟩ := rV_i q0
    have hq : a = 0 ↔ x0 = 0 := by rw [← e0]; exact Int32.toInt_inj (x := x0) (y := 0)
    exact lv_if_ne C.1 C.2.1 hd ht (fun _ => kk ls _ a2 b0 a4) (fun z => absurd (hq.mpr z) hc)
theorem Wp.iclt {a b : Int} {off : Int} {tgt : Nat} (hd : decode M.2.1 pc = .ok (.if_icmp .lt off, 3)) (ht : (pc : Int) + off = (tgt : Int)) (kt : a < b → Wp M d tgt L S h Q) (kf : ¬ a < b → Wp M d (pc + 3) L S h Q) : Wp M d pc L ((0, b) :: (0, a) :: S) h Q := by
  by_cases hc : a < b
  · refine (kt hc).step ?_
    intro D sz h0 p l e R s m args below meth c Qw C H locs cells slots ls st a2 a3 a4 a1 kk
    obtain ⟨_, r0, rfl, q0, b0⟩ := rSt_c a3
    obtain ⟨x0, rfl, e0⟩ := rV_i q0
    obtain ⟨_, r1, rfl, q1, b1⟩ := rSt_c b0
    obtain ⟨x1, rfl, e1⟩ := rV_i q1
    have hq : a < b ↔ x1 < x0 := by rw [← e1, ← e0]; exact Int32.lt_iff_toInt_lt.symm
    exact lv_icmp_lt C.1 C.2.1 hd ht (fun _ => kk ls _ a2 b1 a4) (fun z => absurd (hq.mp hc) z)
  · refine (kf hc).step ?_
    intro D sz h0 p l e R s m args below meth c Qw C H locs cells slots ls st a2 a3 a4 a1 kk
    obtain ⟨_, r0, rfl, q0, b0⟩ := rSt_c a3
    obtain ⟨x0, rfl, e0⟩ := rV_i q0
    obtain ⟨_, r1, rfl, q1, b1⟩ := rSt_c b0
    obtain ⟨x1, rfl, e1⟩ := rV_i q1
    have hq : a < b ↔ x1 < x0 := by rw [← e1, ← e0]; exact Int32.lt_iff_toInt_lt.symm
    exact lv_icmp_lt C.1 C.2.1 hd ht (fun z => absurd (hq.mpr z) hc) (fun _ => kk ls _ a2 b1 a4)
theorem Wp.iflt {a : Int} {off : Int} {tgt : Nat} (hd : decode M.2.1 pc = .ok (.ifCond .lt off, 3)) (ht : (pc : Int) + off = (tgt : Int)) (kt : a < 0 → Wp M d tgt L S h Q) (kf : ¬ a < 0 → Wp M d (pc + 3) L S h Q) : Wp M d pc L ((0, a) :: S) h Q := by
  by_cases hc : a < 0
  · refine (kt hc).step ?_
    intro D sz h0 p l e R s m args below meth c Qw C H locs cells slots ls st a2 a3 a4 a1 kk
    obtain ⟨_, r0, rfl, q0, b0⟩ := rSt_c a3
    obtain ⟨x0, rfl, e0⟩ := rV_i q0
    have hq : a < 0 ↔ x0 < 0 := by rw [← e0]; exact (Int32.lt_iff_toInt_lt (x := x0) (y := 0)).symm
    exact lv_if_lt C.1 C.2.1 hd ht (fun _ => kk ls _ a2 b0 a4) (fun z => absurd (hq.mp hc) z)
  · refine (kf hc).step ?_
    intro D sz h0 p l e R s m args below meth c Qw C H locs cells slots ls st a2 a3 a4 a1 kk
    obtain ⟨_, r0, rfl, q0, b0⟩ := rSt_c a3
    obtain ⟨x0, rfl, e0⟩ := rV_i q0
    have hq : a < 0 ↔ x0 < 0 := by rw [← e0]; exact (Int32.lt_iff_toInt_lt (x := x0) (y := 0)).symm
    exact lv_if_lt C.1 C.2.1 hd ht (fun z => absurd (hq.mpr z) hc) (fun _ => kk ls _ a2 b0 a4)
theorem Wp.icge {a b : Int} {off : Int} {tgt : Nat} (hd : decode M.2.1 pc = .ok (.if_icmp .ge off, 3)) (ht : (pc : Int) + off = (tgt : Int)) (kt : b ≤ a → Wp M d tgt L S h Q) (kf : ¬ b ≤ a → Wp M d (pc + 3) L S h Q) : Wp M d pc L ((0, b) :: (0, a) :: S) h Q := by
  by_cases hc : b ≤ a
  · refine (kt hc).step ?_
    intro D sz h0 p l e R s m args below meth c Qw C H locs cells slots ls st a2 a3 a4 a1 kk
    obtain ⟨_, r0, rfl, q0, b0⟩ := rSt_c a3
    obtain ⟨x0, rfl, e0⟩ := rV_i q0
    obtain ⟨_, r1, rfl, q1, b1⟩ := rSt_c b0
    obtain ⟨x1, rfl, e1⟩ := rV_i q1
    have hq : b ≤ a ↔ x0 ≤ x1 := by rw [← e1, ← e0]; exact Int32.le_iff_toInt_le.symm
    exact lv_icmp_ge C.1 C.2.1 hd ht (fun _ => kk ls _ a2 b1 a4) (fun z => absurd (hq.mp hc) z)
  · refine (kf hc).step ?_
    intro D sz h0 p l e R s m args below meth c Qw C H locs cells slots ls st a2 a3 a4 a1 kk
    obtain ⟨_, r0, rfl, q0, b0⟩ := rSt_c a3
    obtain ⟨x0, rfl, e0⟩ := rV_i q0
    obtain ⟨_, r1, rfl, q1, b1⟩ := rSt_c b0
    obtain ⟨x1, rfl, e1⟩ := rV_i q1
    have hq : b ≤ a ↔ x0 ≤ x1 := by rw [← e1, ← e0]; exact Int32.le_iff_toInt_le.symm
    exact lv_icmp_ge C.1 C.2.1 hd ht (fun z => absurd (hq.mpr z) hc) (fun _ => kk ls _ a2 b1 a4)
theorem Wp.ifge {a : Int} {off : Int} {tgt : Nat} (hd : decode M.2.1 pc = .ok (.ifCond .ge off, 3)) (ht : (pc : Int) + off = (tgt : Int)) (kt : 0 ≤ a → Wp M d tgt L S h Q) (kf : ¬ 0 ≤ a → Wp M d (pc + 3) L S h Q) : Wp M d pc L ((0, a) :: S) h Q := by
  by_cases hc : 0 ≤ a
  · refine (kt hc).step ?_
    intro D sz h0 p l e R s m args below meth c Qw C H locs cells slots ls st a2 a3 a4 a1 kk
    obtain ⟨_, r0, rfl, q0, b0⟩ := rSt_c a3
    obtain ⟨x0, rfl, e0⟩ := rV_i q0
    have hq : 0 ≤ a ↔ 0 ≤ x0 := by rw [← e0]; exact (Int32.le_iff_toInt_le (x := 0) (y := x0)).symm
    exact lv_if_ge C.1 C.2.1 hd ht (fun _ => kk ls _ a2 b0 a4) (fun z => absurd (hq.mp hc) z)
  · refine (kf hc).step ?_
    intro D sz h0 p l e R s m args below meth c Qw C H locs cells slots ls st a2 a3 a4 a1 kk
    obtain ⟨_, r0, rfl, q0, b0⟩ := rSt_c a3
    obtain ⟨x0, rfl, e0⟩ := rV_i q0
    have hq : 0 ≤ a ↔ 0 ≤ x0 := by rw [← e0]; exact (Int32.le_iff_toInt_le (x := 0) (y := x0)).symm
    exact lv_if_ge C.1 C.2.1 hd ht (fun z => absurd (hq.mpr z) hc) (fun _ => kk ls _ a2 b0 a4)
theorem Wp.icgt {a b : Int} {off : Int} {tgt : Nat} (hd : decode M.2.1 pc = .ok (.if_icmp .gt off, 3)) (ht : (pc : Int) + off = (tgt : Int)) (kt : b < a → Wp M d tgt L S h Q) (kf : ¬ b < a → Wp M d (pc + 3) L S h Q) : Wp M d pc L ((0, b) :: (0, a) :: S) h Q := by
  by_cases hc : b < a
  · refine (kt hc).step ?_
    intro D sz h0 p l e R s m args below meth c Qw C H locs cells slots ls st a2 a3 a4 a1 kk
    obtain ⟨_, r0, rfl, q0, b0⟩ := rSt_c a3
    obtain ⟨x0, rfl, e0⟩ := rV_i q0
    obtain ⟨_, r1, rfl, q1, b1⟩ := rSt_c b0
    obtain ⟨x1, rfl, e1⟩ := rV_i q1
    have hq : b < a ↔ x0 < x1 := by rw [← e1, ← e0]; exact Int32.lt_iff_toInt_lt.symm
    exact lv_icmp_gt C.1 C.2.1 hd ht (fun _ => kk ls _ a2 b1 a4) (fun z => absurd (hq.mp hc) z)
  · refine (kf hc).step ?_
    intro D sz h0 p l e R s m args below meth c Qw C H locs cells slots ls st a2 a3 a4 a1 kk
    obtain ⟨_, r0, rfl, q0, b0⟩ := rSt_c a3
    obtain ⟨x0, rfl, e0⟩ := rV_i q0
    obtain ⟨_, r1, rfl, q1, b1⟩ := rSt_c b0
    obtain ⟨x1, rfl, e1⟩ := rV_i q1
    have hq : b < a ↔ x0 < x1 := by rw [← e1, ← e0]; exact Int32.lt_iff_toInt_lt.symm
    exact lv_icmp_gt C.1 C.2.1 hd ht (fun z => absurd (hq.mpr z) hc) (fun _ => kk ls _ a2 b1 a4)
theorem Wp.ifgt {a : Int} {off : Int} {tgt : Nat} (hd : decode M.2.1 pc = .ok (.ifCond .gt off, 3)) (ht : (pc : Int) + off = (tgt : Int)) (kt : 0 < a → Wp M d tgt L S h Q) (kf : ¬ 0 < a → Wp M d (pc + 3) L S h Q) : Wp M d pc L ((0, a) :: S) h Q := by
  by_cases hc : 0 < a
  · refine (kt hc).step ?_
    intro D sz h0 p l e R s m args below meth c Qw C H locs cells slots ls st a2 a3 a4 a1 kk
    obtain ⟨_, r0, rfl, q0, b0⟩ := rSt_c a3
    obtain ⟨x0, rfl, e0⟩ := rV_i q0
    have hq : 0 < a ↔ 0 < x0 := by rw [← e0]; exact (Int32.lt_iff_toInt_lt (x := 0) (y := x0)).symm
    exact lv_if_gt C.1 C.2.1 hd ht (fun _ => kk ls _ a2 b0 a4) (fun z => absurd (hq.mp hc) z)
  · refine (kf hc).step ?_
    intro D sz h0 p l e R s m args below meth c Qw C H locs cells slots ls st a2 a3 a4 a1 kk
    obtain ⟨_, r0, rfl, q0, b0⟩ := rSt_c a3
    obtain ⟨x0, rfl, e0⟩ := rV_i q0
    have hq : 0 < a ↔ 0 < x0 := by rw [← e0]; exact (Int32.lt_iff_toInt_lt (x := 0) (y := x0)).symm
    exact lv_if_gt C.1 C.2.1 hd ht (fun z => absurd (hq.mpr z) hc) (fun _ => kk ls _ a2 b0 a4)
theorem Wp.icle {a b : Int} {off : Int} {tgt : Nat} (hd : decode M.2.1 pc = .ok (.if_icmp .le off, 3)) (ht : (pc : Int) + off = (tgt : Int)) (kt : a ≤ b → Wp M d tgt L S h Q) (kf : ¬ a ≤ b → Wp M d (pc + 3) L S h Q) : Wp M d pc L ((0, b) :: (0, a) :: S) h Q := by
  by_cases hc : a ≤ b
  · refine (kt hc).step ?_
    intro D sz h0 p l e R s m args below meth c Qw C H locs cells slots ls st a2 a3 a4 a1 kk
    obtain ⟨_, r0, rfl, q0, b0⟩ := rSt_c a3
    obtain ⟨x0, rfl, e0⟩ := rV_i q0
    obtain ⟨_, r1, rfl, q1, b1⟩ := rSt_c b0
    obtain ⟨x1, rfl, e1⟩ := rV_i q1
    have hq : a ≤ b ↔ x1 ≤ x0 := by rw [← e1, ← e0]; exact Int32.le_iff_toInt_le.symm
    exact lv_icmp_le C.1 C.2.1 hd ht (fun _ => kk ls _ a2 b1 a4) (fun z => absurd (hq.mp hc) z)
  · refine (kf hc).step ?_
    intro D sz h0 p l e R s m args below meth c Qw C H locs cells slots ls st a2 a3 a4 a1 kk
    obtain ⟨_, r0, rfl, q0, b0⟩ := rSt_c a3
    obtain ⟨x0, rfl, e0⟩ := rV_i q0
    obtain ⟨_, r1, rfl, q1, b1⟩ := rSt_c b0
    obtain ⟨x1, rfl, e1⟩ := rV_i q1
    have hq : a ≤ b ↔ x1 ≤ x0 := by rw [← e1, ← e0]; exact Int32.le_iff_toInt_le.symm
    exact lv_icmp_le C.1 C.2.1 hd ht (fun z => absurd (hq.mpr z) hc) (fun _ => kk ls _ a2 b1 a4)
theorem Wp.ifle {a : Int} {off : Int} {tgt : Nat} (hd : decode M.2.1 pc = .ok (.ifCond .le off, 3)) (ht : (pc : Int) + off = (tgt : Int)) (kt : a ≤ 0 → Wp M d tgt L S h Q) (kf : ¬ a ≤ 0 → Wp M d (pc + 3) L S h Q) : Wp M d pc L ((0, a) :: S) h Q := by
  by_cases hc : a ≤ 0
  · refine (kt hc).step ?_
    intro D sz h0 p l e R s m args below meth c Qw C H locs cells slots ls st a2 a3 a4 a1 kk
    obtain ⟨_, r0, rfl, q0, b0⟩ := rSt_c a3
    obtain ⟨x0, rfl, e0⟩ := rV_i q0
    have hq : a ≤ 0 ↔ x0 ≤ 0 := by rw [← e0]; exact (Int32.le_iff_toInt_le (x := x0) (y := 0)).symm
    exact lv_if_le C.1 C.2.1 hd ht (fun _ => kk ls _ a2 b0 a4) (fun z => absurd (hq.mp hc) z)
  · refine (kf hc).step ?_
    intro D sz h0 p l e R s m args below meth c Qw C H locs cells slots ls st a2 a3 a4 a1 kk
    obtain ⟨_, r0, rfl, q0, b0⟩ := rSt_c a3
    obtain ⟨x0, rfl, e0⟩ := rV_i q0
    have hq : a ≤ 0 ↔ x0 ≤ 0 := by rw [← e0]; exact (Int32.le_iff_toInt_le (x := x0) (y := 0)).symm
    exact lv_if_le C.1 C.2.1 hd ht (fun z => absurd (hq.mpr z) hc) (fun _ => kk ls _ a2 b0 a4)
theorem Wp.goto {off : Int} {tgt : Nat} (hd : decode M.2.1 pc = .ok (.goto off, 3)) (ht : (pc : Int) + off = (tgt : Int)) (k : Wp M d tgt L S h Q) : Wp M d pc L S h Q := by
  refine k.step ?_
  intro D sz h0 p l e R s m args below meth c Qw C H locs cells slots ls st a2 a3 a4 a1 kk
  exact lv_goto C.1 C.2.1 hd ht (kk ls _ a2 a3 a4)
theorem Wp.ifnonnull {a off : Int} {tgt : Nat} (hd : decode M.2.1 pc = .ok (.ifnonnull off, 3)) (ht : (pc : Int) + off = (tgt : Int)) (hne : a ≠ -1) (k : Wp M d tgt L S h Q) : Wp M d pc L ((2, a) :: S) h Q := by
  refine k.step ?_
  intro D sz h0 p l e R s m args below meth c Qw C H locs cells slots ls st a2 a3 a4 a1 kk
  obtain ⟨x, r, rfl, q, b0⟩ := rSt_c a3
  rcases rV_r q with ⟨z, rfl⟩ | ⟨-, rfl⟩
  · exact absurd z hne
  · exact lv_ifnonnull C.1 C.2.1 hd ht (kk ls _ a2 b0 a4)
theorem Wp.ifnonnullN {off : Int} (hd : decode M.2.1 pc = .ok (.ifnonnull off, 3)) (k : Wp M d (pc + 3) L S h Q) : Wp M d pc L ((2, -1) :: S) h Q := by
  refine k.step ?_
  intro D sz h0 p l e R s m args below meth c Qw C H locs cells slots ls st a2 a3 a4 a1 kk
  obtain ⟨x, r, rfl, q, b0⟩ := rSt_c a3
  rcases rV_r q with ⟨-, rfl⟩ | ⟨z, -⟩
  · exact lv_ifnonnullN C.1 C.2.1 hd (kk ls _ a2 b0 a4)
  · exact absurd z (by decide)
theorem Wp.ifnull {a off : Int} (hd : decode M.2.1 pc = .ok (.ifnull off, 3)) (hne : a ≠ -1) (k : Wp M d (pc + 3) L S h Q) : Wp M d pc L ((2, a) :: S) h Q := by
  refine k.step ?_
  intro D sz h0 p l e R s m args below meth c Qw C H locs cells slots ls st a2 a3 a4 a1 kk
  obtain ⟨x, r, rfl, q, b0⟩ := rSt_c a3
  rcases rV_r q with ⟨z, rfl⟩ | ⟨-, rfl⟩
  · exact absurd z hne
  · exact lv_ifnull C.1 C.2.1 hd (kk ls _ a2 b0 a4)
theorem Wp.ifnullN {off : Int} {tgt : Nat} (hd : decode M.2.1 pc = .ok (.ifnull off, 3)) (ht : (pc : Int) + off = (tgt : Int)) (k : Wp M d tgt L S h Q) : Wp M d pc L ((2, -1) :: S) h Q := by
  refine k.step ?_
  intro D sz h0 p l e R s m args below meth c Qw C H locs cells slots ls st a2 a3 a4 a1 kk
  obtain ⟨x, r, rfl, q, b0⟩ := rSt_c a3
  rcases rV_r q with ⟨-, rfl⟩ | ⟨z, -⟩
  · exact lv_ifnullN C.1 C.2.1 hd ht (kk ls _ a2 b0 a4)
  · exact absurd z (by decide)
theorem Wp.tabOut {a dflt lo hi : Int} {offs : Array Int} {len tgt : Nat} (hd : decode M.2.1 pc = .ok (.tableswitch dflt lo hi offs, len)) (hc : a < lo ∨ hi < a) (ht : (pc : Int) + dflt = (tgt : Int)) (k : Wp M d tgt L S h Q) : Wp M d pc L ((0, a) :: S) h Q := by
  refine k.step ?_
  intro D sz h0 p l e R s m args below meth c Qw C H locs cells slots ls st a2 a3 a4 a1 kk
  obtain ⟨_, r0, rfl, q0, b0⟩ := rSt_c a3
  obtain ⟨x0, rfl, e0⟩ := rV_i q0
  exact lv_tableOut C.1 C.2.1 hd (by rw [e0]; exact hc) ht (kk ls _ a2 b0 a4)
theorem Wp.tabIn {a dflt lo hi off : Int} {offs : Array Int} {len tgt : Nat} (hd : decode M.2.1 pc = .ok (.tableswitch dflt lo hi offs, len)) (h1 : ¬ a < lo) (h2 : ¬ hi < a) (ho : offs[(a - lo).toNat]? = some off) (ht : (pc : Int) + off = (tgt : Int)) (k : Wp M d tgt L S h Q) : Wp M d pc L ((0, a) :: S) h Q := by
  refine k.step ?_
  intro D sz h0 p l e R s m args below meth c Qw C H locs cells slots ls st a2 a3 a4 a1 kk
  obtain ⟨_, r0, rfl, q0, b0⟩ := rSt_c a3
  obtain ⟨x0, rfl, e0⟩ := rV_i q0
  exact lv_tableIn C.1 C.2.1 hd (by rw [e0]; exact h1) (by rw [e0]; exact h2) (by rw [e0]; exact ho) ht (kk ls _ a2 b0 a4)
theorem rLs_known {sz : Nat} {L : List mV} {ls : Array Slot} (hr : rLs sz L ls) : ∃ kn : List (Nat × Value), lv_has ls L.length kn ∧ ∀ (i : Nat) (v : mV), L[i]? = some v → v.1 < 3 → ∃ x, (i, x) ∈ kn ∧ rV sz v x := by
  refine ⟨(List.range ls.size).filterMap (fun (i : Nat) => match (ls[i]? : Option Slot) with | some (Slot.val x) => some (i, x) | _ => none), ⟨hr.1, hr.2.1, ?_⟩, ?_⟩
  · intro q hq
    obtain ⟨i, -, hi⟩ := List.mem_filterMap.mp hq
    split at hi
    · rename_i x hx
      cases hi
      exact hx
    · cases hi
  · intro i v hv ht
    obtain ⟨x, hx, q⟩ := hr.2.2 i v hv ht
    refine ⟨x, List.mem_filterMap.mpr ⟨i, List.mem_range.mpr (Array.getElem?_eq_some_iff.mp hx).1, ?_⟩, q⟩
    rw [hx]
/-- what may stand in the locals behind a store of one word at i -/
def stO (L L' : List mV) (i : Nat) : Prop := L'.length = L.length ∧ ∀ (j : Nat) (v : mV), j ≠ i → L'[j]? = some v → v.1 < 3 → L[j]? = some v ∧ ¬ (j + 1 = i ∧ v.1 = 1)
theorem st_one {sz : Nat} {L L' : List mV} {ls : Array Slot} {i : Nat} {v : mV} {x : Value} (hr : rLs sz L ls) (hs : stO L L' i) (hi : i < L.length) (hv : L'[i]? = some v) (hx : rV sz v x) (hc : x.category = 1) : ∃ ls', storeLocals ls i x = some ls' ∧ rLs sz L' ls' := by
  obtain ⟨kn, hk, hkn⟩ := rLs_known hr
  obtain ⟨ls', e1, e2⟩ := lv_store1 hk hi hc
  refine ⟨ls', e1, by rw [e2.1, hs.1], e2.2.1, fun j u hu ht => ?_⟩
  by_cases hj : j = i
  · subst hj
    cases hv.symm.trans hu
    exact ⟨x, e2.2.2 (j, x) List.mem_cons_self, hx⟩
  · obtain ⟨h1, h2⟩ := hs.2 j u hj hu ht
    obtain ⟨y, hy, q⟩ := hkn j u h1 ht
    refine ⟨y, e2.2.2 (j, y) (List.mem_cons_of_mem _ (List.mem_filter.mpr ⟨hy, ?_⟩)), q⟩
    have hcat : j + 1 = i → ¬ y.category = 2 := fun hz hy2 => by
      have h3 : ¬ u.1 = 1 := fun z => h2 ⟨hz, z⟩
      have h4 : u.1 = 0 ∨ u.1 = 2 := by omega
      rw [rV_cat1 q h4] at hy2
      cases hy2
    simp only [Bool.and_eq_true, Bool.not_eq_true', beq_eq_false_iff_ne, ne_eq, Bool.and_eq_false_imp, beq_iff_eq]
    exact ⟨hj, fun hz => hcat hz⟩
def stT (L L' : List mV) (i : Nat) : Prop := L'.length = L.length ∧ (∀ v : mV, L'[i + 1]? = some v → ¬ v.1 < 3) ∧ ∀ (j : Nat) (v : mV), j ≠ i → j ≠ i + 1 → L'[j]? = some v → v.1 < 3 → L[j]? = some v ∧ ¬ (j + 1 = i ∧ v.1 = 1)
theorem st_two {sz : Nat} {L L' : List mV} {ls : Array Slot} {i : Nat} {v : mV} {x : Value} (hr : rLs sz L ls) (hs : stT L L' i) (hi : i + 1 < L.length) (hv : L'[i]? = some v) (hx : rV sz v x) (hc : x.category = 2) : ∃ ls', storeLocals ls i x = some ls' ∧ rLs sz L' ls' := by
  obtain ⟨kn, hk, hkn⟩ := rLs_known hr
  obtain ⟨ls', e1, e2⟩ := lv_store2 hk hi hc
  refine ⟨ls', e1, by rw [e2.1, hs.1], e2.2.1, fun j u hu ht => ?_⟩
  by_cases hj : j = i
  · subst hj
    cases hv.symm.trans hu
    exact ⟨x, e2.2.2 (j, x) List.mem_cons_self, hx⟩
  · by_cases hj2 : j = i + 1
    · subst hj2
      exact absurd ht (hs.2.1 u hu)
    · obtain ⟨h1, h2⟩ := hs.2.2 j u hj hj2 hu ht
      obtain ⟨y, hy, q⟩ := hkn j u h1 ht
      refine ⟨y, e2.2.2 (j, y) (List.mem_cons_of_mem _ (List.mem_filter.mpr ⟨hy, ?_⟩)), q⟩
      have hcat : j + 1 = i → ¬ y.category = 2 := fun hz hy2 => by
        have h3 : ¬ u.1 = 1 := fun z => h2 ⟨hz, z⟩
        have h4 : u.1 = 0 ∨ u.1 = 2 := by omega
        rw [rV_cat1 q h4] at hy2
        cases hy2
      simp only [Bool.and_eq_true, Bool.not_eq_true', beq_eq_false_iff_ne, ne_eq, Bool.and_eq_false_imp, beq_iff_eq]
      exact ⟨hj, hj2, fun hz => hcat hz⟩
/-- which instruction stores at i: of one byte, or of two -/
def dSt (cc : ByteArray) (pc i len : Nat) (f : Fin 4 → Instr) (g : Nat → Instr) : Prop := (∃ j : Fin 4, (j : Nat) = i ∧ decode cc pc = .ok (f j, 1) ∧ len = 1) ∨ (decode cc pc = .ok (g i, 2) ∧ len = 2)
theorem dSt_n {cc : ByteArray} {pc : Nat} {j : Fin 4} {f : Fin 4 → Instr} {g : Nat → Instr} (hd : decode cc pc = .ok (f j, 1)) : dSt cc pc j 1 f g := Or.inl ⟨j, rfl, hd, rfl⟩
theorem dSt_w {cc : ByteArray} {pc i : Nat} {f : Fin 4 → Instr} {g : Nat → Instr} (hd : decode cc pc = .ok (g i, 2)) : dSt cc pc i 2 f g := Or.inr ⟨hd, rfl⟩
theorem Wp.ist {L' : List mV} {i len : Nat} {x : Int} (hd : dSt M.2.1 pc i len Instr.istore_n Instr.istore) (hs : stO L L' i) (hi : i < L.length) (hv : L'[i]? = some (0, x)) (k : Wp M d (pc + len) L' S h Q) : Wp M d pc L ((0, x) :: S) h Q := by
  refine k.step ?_
  intro D sz h0 p l e R s m args below meth c Qw C H locs cells slots ls st a2 a3 a4 a1 kk
  obtain ⟨_, r0, rfl, q0, b0⟩ := rSt_c a3
  obtain ⟨x0, rfl, e0⟩ := rV_i q0
  obtain ⟨ls', e', h'⟩ := st_one a2 hs hi hv q0 rfl
  have kk2 := kk ls' _ h' b0 (hs.1.trans a4)
  intro T hT X
  obtain ⟨t, a, b⟩ := kk2 T hT X
  refine ⟨t, ?_, b⟩
  obtain ⟨hexec, hb, -⟩ := C
  rcases hd with ⟨j, rfl, hdg, rfl⟩ | ⟨hdg, rfl⟩
  · jvm_step X.here [X.here.top, ↓top_set X.here.top, hexec, hb, hdg, e']
    exact a
  · jvm_step X.here [X.here.top, ↓top_set X.here.top, hexec, hb, hdg, e']
    exact a
theorem Wp.lst {L' : List mV} {i len : Nat} {x : Int} (hd : dSt M.2.1 pc i len Instr.lstore_n Instr.lstore) (hs : stT L L' i) (hi : i + 1 < L.length) (hv : L'[i]? = some (1, x)) (k : Wp M d (pc + len) L' S h Q) : Wp M d pc L ((1, x) :: S) h Q := by
  refine k.step ?_
  intro D sz h0 p l e R s m args below meth c Qw C H locs cells slots ls st a2 a3 a4 a1 kk
  obtain ⟨_, r0, rfl, q0, b0⟩ := rSt_c a3
  obtain ⟨x0, rfl, e0⟩ := rV_l q0
  obtain ⟨ls', e', h'⟩ := st_two a2 hs hi hv q0 rfl
  have kk2 := kk ls' _ h' b0 (hs.1.trans a4)
  intro T hT X
  obtain ⟨t, a, b⟩ := kk2 T hT X
  refine ⟨t, ?_, b⟩
  obtain ⟨hexec, hb, -⟩ := C
  rcases hd with ⟨j, rfl, hdg, rfl⟩ | ⟨hdg, rfl⟩
  · jvm_step X.here [X.here.top, ↓top_set X.here.top, hexec, hb, hdg, e']
    exact a
  · jvm_step X.here [X.here.top, ↓top_set X.here.top, hexec, hb, hdg, e']
    exact a
theorem Wp.ast {L' : List mV} {i len : Nat} {x : Int} (hd : dSt M.2.1 pc i len Instr.astore_n Instr.astore) (hs : stO L L' i) (hi : i < L.length) (hv : L'[i]? = some (2, x)) (k : Wp M d (pc + len) L' S h Q) : Wp M d pc L ((2, x) :: S) h Q := by
  refine k.step ?_
  intro D sz h0 p l e R s m args below meth c Qw C H locs cells slots ls st a2 a3 a4 a1 kk
  obtain ⟨_, r0, rfl, q0, b0⟩ := rSt_c a3
  obtain ⟨ls', e', h'⟩ := st_one a2 hs hi hv q0 (rV_cat1 q0 (Or.inr rfl))
  have kk2 := kk ls' _ h' b0 (hs.1.trans a4)
  intro T hT X
  obtain ⟨t, a, b⟩ := kk2 T hT X
  refine ⟨t, ?_, b⟩
  obtain ⟨hexec, hb, -⟩ := C
  rcases rV_r q0 with ⟨-, rfl⟩ | ⟨-, rfl⟩ <;> rcases hd with ⟨j, rfl, hdg, rfl⟩ | ⟨hdg, rfl⟩ <;>
  · jvm_step X.here [X.here.top, ↓top_set X.here.top, hexec, hb, hdg, e', Value.isRef]
    exact a
theorem Wp.iinc {L' : List mV} {i : Nat} {x n : Int} (hl : L[i]? = some (0, x)) (hd : decode M.2.1 pc = .ok (.iinc i n, 3)) (hs : stO L L' i) (hv : L'[i]? = some (0, w32 (x + n))) (k : Wp M d (pc + 3) L' S h Q) : Wp M d pc L S h Q := by
  refine k.step ?_
  intro D sz h0 p l e R s m args below meth c Qw C H locs cells slots ls st a2 a3 a4 a1 kk
  obtain ⟨v, hg, q⟩ := a2.2.2 _ _ hl (show 0 < 3 by decide)
  obtain ⟨y, rfl, ey⟩ := rV_i q
  have hi : i < L.length := (List.getElem?_eq_some_iff.mp hl).1
  obtain ⟨ls', e', h'⟩ := st_one a2 hs hi hv (x := .int (y + Int32.ofInt n)) (mI ((add32 ey (t32 n)).trans (by rw [w32_add]))) rfl
  have kk2 := kk ls' _ h' a3 (hs.1.trans a4)
  intro T hT X
  obtain ⟨t, a, b⟩ := kk2 T hT X
  refine ⟨t, ?_, b⟩
  obtain ⟨hexec, hb, -⟩ := C
  jvm_step X.here [X.here.top, ↓top_set X.here.top, hexec, hb, hd, hg, e']
  exact a
theorem stO_set {L : List mV} {i : Nat} {v : mV} (hc : ∀ u : mV, i ≠ 0 → L[i - 1]? = some u → u.1 ≠ 1) : stO L (L.set i v) i := by
  refine ⟨List.length_set, fun j u hj hu ht => ?_⟩
  rw [List.getElem?_set_ne (Ne.symm hj)] at hu
  refine ⟨hu, fun hz => hc u (by omega) ?_ hz.2⟩
  rw [show i - 1 = j by omega]
  exact hu
theorem stT_set {L : List mV} {i : Nat} {v : mV} (hc : ∀ u : mV, i ≠ 0 → L[i - 1]? = some u → u.1 ≠ 1) : stT L ((L.set i v).set (i + 1) (9, 0)) i := by
  refine ⟨by rw [List.length_set, List.length_set], fun u hu ht => ?_, fun j u hj hj2 hu ht => ?_⟩
  · rw [List.getElem?_set] at hu
    simp only [if_true] at hu
    split at hu
    · cases hu
      exact absurd ht (by decide)
    · cases hu
  · rw [List.getElem?_set_ne (Ne.symm hj2), List.getElem?_set_ne (Ne.symm hj)] at hu
    refine ⟨hu, fun hz => hc u (by omega) ?_ hz.2⟩
    rw [show i - 1 = j by omega]
    exact hu
end VMC
