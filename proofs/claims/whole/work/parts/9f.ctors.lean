/-! the constructors of the class; written by wip/whole/gen_ctor.py -/
def nly (k : Nat) (L : List (Nat × Nat)) : Prop := ∀ j, j < L.length → gLY[k + j]? = L[j]?
theorem nly_sub {k : Nat} {L L' : List (Nat × Nat)} (h : nly k L) (b : Nat) (hb : (L.drop b).take L'.length = L') : nly (k + b) L' := by
  intro j hj
  have h2 : ((L.drop b).take L'.length).length = L'.length := by rw [hb]
  rw [List.length_take, List.length_drop] at h2
  have h1 : ((L.drop b).take L'.length)[j]? = L[b + j]? := by rw [List.getElem?_take_of_lt hj, List.getElem?_drop]
  rw [hb] at h1
  rw [h1, Nat.add_assoc]
  exact h (b + j) (by omega)
def nmix (q : Nat) (μc μ : gM) : gM := fun a b => if q ≤ a then μc a b else μ a b
def nZ : gM := fun _ _ => 0
def nTree (k : Nat) : gM := gS nZ k 15 4
def nTab (k : Nat) : gM := nfillM nZ (k + 3) 256 (-1)
def nRea (k : Nat) : gM := gS (nTree (k + 2)) k 12 (-1)
def nSta2 (k : Nat) : gM := nmix (k + 15) (nTab (k + 15)) (nTree (k + 1))
def nSta (k : Nat) : gM := nfillM (nSta2 k) (k + 49) 8 (-1)
def nGd (k : Nat) : gM := nmix (k + 117) (nSta (k + 117)) (nmix (k + 67) (nSta (k + 67)) (nmix (k + 17) (nSta (k + 17)) (nRea (k + 1))))
theorem n_oi1 : Cond.instanceMethod Lib.objectInit ∈ gTB := gTB_at 25 (by decide +kernel) rfl
theorem n_oi2 : Cond.code Lib.objectInit ⟨#[0xb1]⟩ 1 none ∈ gTB := gTB_at 26 (by decide +kernel) rfl
theorem n_aI : Cond.arrayClass .int ∈ gTB := gTB_at 116 (by decide +kernel) rfl
theorem n_aJ : Cond.arrayClass .long ∈ gTB := gTB_at 224 (by decide +kernel) rfl
def nL0 : List (Nat × Nat) := [(0, 0), (1, 16), (1, 16), (1, 16), (1, 16)]
def nL1 : List (Nat × Nat) := [(0, 1), (1, 64), (1, 64), (2, 256), (1, 64)]
def nL2 : List (Nat × Nat) := [(0, 2), (1, 3), (1, 3), (1, 8), (1, 8), (1, 8), (1, 8)]
def nL3 : List (Nat × Nat) := [(0, 3), (1, 32), (1, 32), (1, 32), (1, 32)]
def nL4 : List (Nat × Nat) := [(0, 4), (1, 700), (0, 8), (1, 6), (1, 6), (1, 6), (1, 8), (1, 8), (1, 8), (1, 8), (1, 8), (1, 6), (1, 6), (1, 6), (1, 8), (1, 8)]
def nL5 : List (Nat × Nat) := [(0, 5), (1, 8), (1, 8), (1, 8), (1, 8)]
def nL6 : List (Nat × Nat) := [(0, 6), (0, 8), (1, 6), (1, 6), (1, 6), (1, 8), (1, 8), (1, 8), (1, 8), (1, 8), (1, 6), (1, 6), (1, 6), (1, 8), (1, 8), (0, 7), (1, 4), (1, 4), (1, 256), (1, 256), (1, 256), (1, 64), (0, 1), (1, 64), (1, 64), (2, 256), (1, 64), (0, 3), (1, 32), (1, 32), (1, 32), (1, 32), (0, 0), (1, 16), (1, 16), (1, 16), (1, 16), (0, 5), (1, 8), (1, 8), (1, 8), (1, 8), (0, 2), (1, 3), (1, 3), (1, 8), (1, 8), (1, 8), (1, 8), (1, 8)]
def nL7 : List (Nat × Nat) := [(0, 7), (1, 4), (1, 4), (1, 256), (1, 256), (1, 256), (1, 64)]
def nL8 : List (Nat × Nat) := [(0, 8), (1, 6), (1, 6), (1, 6), (1, 8), (1, 8), (1, 8), (1, 8), (1, 8), (1, 6), (1, 6), (1, 6), (1, 8), (1, 8)]
def nL9 : List (Nat × Nat) := [(0, 9), (0, 4), (1, 700), (0, 8), (1, 6), (1, 6), (1, 6), (1, 8), (1, 8), (1, 8), (1, 8), (1, 8), (1, 6), (1, 6), (1, 6), (1, 8), (1, 8), (0, 6), (0, 8), (1, 6), (1, 6), (1, 6), (1, 8), (1, 8), (1, 8), (1, 8), (1, 8), (1, 6), (1, 6), (1, 6), (1, 8), (1, 8), (0, 7), (1, 4), (1, 4), (1, 256), (1, 256), (1, 256), (1, 64), (0, 1), (1, 64), (1, 64), (2, 256), (1, 64), (0, 3), (1, 32), (1, 32), (1, 32), (1, 32), (0, 0), (1, 16), (1, 16), (1, 16), (1, 16), (0, 5), (1, 8), (1, 8), (1, 8), (1, 8), (0, 2), (1, 3), (1, 3), (1, 8), (1, 8), (1, 8), (1, 8), (1, 8), (0, 6), (0, 8), (1, 6), (1, 6), (1, 6), (1, 8), (1, 8), (1, 8), (1, 8), (1, 8), (1, 6), (1, 6), (1, 6), (1, 8), (1, 8), (0, 7), (1, 4), (1, 4), (1, 256), (1, 256), (1, 256), (1, 64), (0, 1), (1, 64), (1, 64), (2, 256), (1, 64), (0, 3), (1, 32), (1, 32), (1, 32), (1, 32), (0, 0), (1, 16), (1, 16), (1, 16), (1, 16), (0, 5), (1, 8), (1, 8), (1, 8), (1, 8), (0, 2), (1, 3), (1, 3), (1, 8), (1, 8), (1, 8), (1, 8), (1, 8), (0, 6), (0, 8), (1, 6), (1, 6), (1, 6), (1, 8), (1, 8), (1, 8), (1, 8), (1, 8), (1, 6), (1, 6), (1, 6), (1, 8), (1, 8), (0, 7), (1, 4), (1, 4), (1, 256), (1, 256), (1, 256), (1, 64), (0, 1), (1, 64), (1, 64), (2, 256), (1, 64), (0, 3), (1, 32), (1, 32), (1, 32), (1, 32), (0, 0), (1, 16), (1, 16), (1, 16), (1, 16), (0, 5), (1, 8), (1, 8), (1, 8), (1, 8), (0, 2), (1, 3), (1, 3), (1, 8), (1, 8), (1, 8), (1, 8), (1, 8)]
set_option maxRecDepth 20000 in
theorem n_Cache (l : Launch) (D : va_G) (a0 : Nat) (cI cJ : ClassId) {k : Nat} (hly : nly k nL0) : nMet l D a0 cI cJ (⟨gown 0, "<init>", "()V"⟩ : MethodName) prog_2_method_1_code 1 1 12 k 0 5 64 (nZ) := by
  refine n_met (ls0 := [gO 0 k]) rfl (by decide +kernel) rfl rfl (by decide) (by decide) (fun C0 => ?_)
  show nW _ _ _ _ _ _ _ _ _ _ _ _ _ _ _ _ _ _ _ _ _ _ _ nZ _ _
  refine n_aload C0 (i := 0) (x := 0) (r := .inl (0, k)) rfl rfl (by decide +kernel) ?_
  refine n_objInit C0 (idx := 3) rfl (gTB_at 270 (by decide +kernel) rfl) n_oi1 n_oi2 (Nat.le_of_ble_eq_true rfl) (Nat.le_of_ble_eq_true rfl) (by decide +kernel) ?_
  refine n_aload C0 (i := 0) (x := 0) (r := .inl (0, k)) rfl rfl (by decide +kernel) ?_
  refine n_bipush C0 (n := ((16 : Nat) : Int)) (by decide +kernel) (by decide +kernel) ?_
  refine n_newI C0 (L := 16) (hly 1 (by decide)) (fun _ => rfl) (by decide) n_aI (Nat.le_of_ble_eq_true rfl) (Nat.le_of_ble_eq_true rfl) (by decide +kernel) ?_
  refine n_putR C0 (idx := 9) (j := 1) (t := 4) (o := 1) (x := 16) rfl rfl (by decide) (by decide) (by decide +kernel) (gTB_at 274 (by decide +kernel) rfl) rfl rfl (by decide +kernel) ?_
  refine n_aload C0 (i := 0) (x := 0) (r := .inl (0, k)) rfl rfl (by decide +kernel) ?_
  refine n_bipush C0 (n := ((16 : Nat) : Int)) (by decide +kernel) (by decide +kernel) ?_
  refine n_newI C0 (L := 16) (hly 2 (by decide)) (fun _ => rfl) (by decide) n_aI (Nat.le_of_ble_eq_true rfl) (Nat.le_of_ble_eq_true rfl) (by decide +kernel) ?_
  refine n_putR C0 (idx := 15) (j := 2) (t := 4) (o := 2) (x := 16) rfl rfl (by decide) (by decide) (by decide +kernel) (gTB_at 276 (by decide +kernel) rfl) rfl rfl (by decide +kernel) ?_
  refine n_aload C0 (i := 0) (x := 0) (r := .inl (0, k)) rfl rfl (by decide +kernel) ?_
  refine n_bipush C0 (n := ((16 : Nat) : Int)) (by decide +kernel) (by decide +kernel) ?_
  refine n_newI C0 (L := 16) (hly 3 (by decide)) (fun _ => rfl) (by decide) n_aI (Nat.le_of_ble_eq_true rfl) (Nat.le_of_ble_eq_true rfl) (by decide +kernel) ?_
  refine n_putR C0 (idx := 18) (j := 3) (t := 4) (o := 3) (x := 16) rfl rfl (by decide) (by decide) (by decide +kernel) (gTB_at 278 (by decide +kernel) rfl) rfl rfl (by decide +kernel) ?_
  refine n_aload C0 (i := 0) (x := 0) (r := .inl (0, k)) rfl rfl (by decide +kernel) ?_
  refine n_bipush C0 (n := ((16 : Nat) : Int)) (by decide +kernel) (by decide +kernel) ?_
  refine n_newI C0 (L := 16) (hly 4 (by decide)) (fun _ => rfl) (by decide) n_aI (Nat.le_of_ble_eq_true rfl) (Nat.le_of_ble_eq_true rfl) (by decide +kernel) ?_
  refine n_putR C0 (idx := 21) (j := 4) (t := 4) (o := 4) (x := 16) rfl rfl (by decide) (by decide) (by decide +kernel) (gTB_at 280 (by decide +kernel) rfl) rfl rfl (by decide +kernel) ?_
  exact n_ret C0 (hly 0 (by decide)) (by decide) (by decide +kernel) (fun _ _ _ => rfl) (fun _ h => h) (by decide +kernel)
set_option maxRecDepth 20000 in
theorem n_Frames (l : Launch) (D : va_G) (a0 : Nat) (cI cJ : ClassId) {k : Nat} (hly : nly k nL1) : nMet l D a0 cI cJ (⟨gown 1, "<init>", "()V"⟩ : MethodName) prog_3_method_1_code 1 1 12 k 1 5 448 (nZ) := by
  refine n_met (ls0 := [gO 1 k]) rfl (by decide +kernel) rfl rfl (by decide) (by decide) (fun C0 => ?_)
  show nW _ _ _ _ _ _ _ _ _ _ _ _ _ _ _ _ _ _ _ _ _ _ _ nZ _ _
  refine n_aload C0 (i := 0) (x := 0) (r := .inl (1, k)) rfl rfl (by decide +kernel) ?_
  refine n_objInit C0 (idx := 3) rfl (gTB_at 209 (by decide +kernel) rfl) n_oi1 n_oi2 (Nat.le_of_ble_eq_true rfl) (Nat.le_of_ble_eq_true rfl) (by decide +kernel) ?_
  refine n_aload C0 (i := 0) (x := 0) (r := .inl (1, k)) rfl rfl (by decide +kernel) ?_
  refine n_bipush C0 (n := ((64 : Nat) : Int)) (by decide +kernel) (by decide +kernel) ?_
  refine n_newI C0 (L := 64) (hly 1 (by decide)) (fun _ => rfl) (by decide) n_aI (Nat.le_of_ble_eq_true rfl) (Nat.le_of_ble_eq_true rfl) (by decide +kernel) ?_
  refine n_putR C0 (idx := 9) (j := 0) (t := 4) (o := 1) (x := 64) rfl rfl (by decide) (by decide) (by decide +kernel) (gTB_at 210 (by decide +kernel) rfl) rfl rfl (by decide +kernel) ?_
  refine n_aload C0 (i := 0) (x := 0) (r := .inl (1, k)) rfl rfl (by decide +kernel) ?_
  refine n_bipush C0 (n := ((64 : Nat) : Int)) (by decide +kernel) (by decide +kernel) ?_
  refine n_newI C0 (L := 64) (hly 2 (by decide)) (fun _ => rfl) (by decide) n_aI (Nat.le_of_ble_eq_true rfl) (Nat.le_of_ble_eq_true rfl) (by decide +kernel) ?_
  refine n_putR C0 (idx := 15) (j := 1) (t := 4) (o := 2) (x := 64) rfl rfl (by decide) (by decide) (by decide +kernel) (gTB_at 212 (by decide +kernel) rfl) rfl rfl (by decide +kernel) ?_
  refine n_aload C0 (i := 0) (x := 0) (r := .inl (1, k)) rfl rfl (by decide +kernel) ?_
  refine n_sipush C0 (n := ((256 : Nat) : Int)) (by decide +kernel) (by decide +kernel) ?_
  refine n_newJ C0 (L := 256) (hly 3 (by decide)) (fun _ => rfl) (by decide) n_aJ (Nat.le_of_ble_eq_true rfl) (Nat.le_of_ble_eq_true rfl) (by decide +kernel) ?_
  refine n_putR C0 (idx := 18) (j := 2) (t := 5) (o := 3) (x := 256) rfl rfl (by decide) (by decide) (by decide +kernel) (gTB_at 213 (by decide +kernel) rfl) rfl rfl (by decide +kernel) ?_
  refine n_aload C0 (i := 0) (x := 0) (r := .inl (1, k)) rfl rfl (by decide +kernel) ?_
  refine n_bipush C0 (n := ((64 : Nat) : Int)) (by decide +kernel) (by decide +kernel) ?_
  refine n_newI C0 (L := 64) (hly 4 (by decide)) (fun _ => rfl) (by decide) n_aI (Nat.le_of_ble_eq_true rfl) (Nat.le_of_ble_eq_true rfl) (by decide +kernel) ?_
  refine n_putR C0 (idx := 22) (j := 3) (t := 4) (o := 4) (x := 64) rfl rfl (by decide) (by decide) (by decide +kernel) (gTB_at 214 (by decide +kernel) rfl) rfl rfl (by decide +kernel) ?_
  exact n_ret C0 (hly 0 (by decide)) (by decide) (by decide +kernel) (fun _ _ _ => rfl) (fun _ h => h) (by decide +kernel)
set_option maxRecDepth 20000 in
theorem n_Log (l : Launch) (D : va_G) (a0 : Nat) (cI cJ : ClassId) {k : Nat} (hly : nly k nL2) : nMet l D a0 cI cJ (⟨gown 2, "<init>", "()V"⟩ : MethodName) prog_4_method_1_code 1 1 12 k 2 7 38 (nZ) := by
  refine n_met (ls0 := [gO 2 k]) rfl (by decide +kernel) rfl rfl (by decide) (by decide) (fun C0 => ?_)
  show nW _ _ _ _ _ _ _ _ _ _ _ _ _ _ _ _ _ _ _ _ _ _ _ nZ _ _
  refine n_aload C0 (i := 0) (x := 0) (r := .inl (2, k)) rfl rfl (by decide +kernel) ?_
  refine n_objInit C0 (idx := 3) rfl (gTB_at 343 (by decide +kernel) rfl) n_oi1 n_oi2 (Nat.le_of_ble_eq_true rfl) (Nat.le_of_ble_eq_true rfl) (by decide +kernel) ?_
  refine n_aload C0 (i := 0) (x := 0) (r := .inl (2, k)) rfl rfl (by decide +kernel) ?_
  refine n_iconst C0 (n := ((3 : Nat) : Int)) (by decide +kernel) ?_
  refine n_newI C0 (L := 3) (hly 1 (by decide)) (fun _ => rfl) (by decide) n_aI (Nat.le_of_ble_eq_true rfl) (Nat.le_of_ble_eq_true rfl) (by decide +kernel) ?_
  refine n_putR C0 (idx := 9) (j := 1) (t := 4) (o := 1) (x := 3) rfl rfl (by decide) (by decide) (by decide +kernel) (gTB_at 345 (by decide +kernel) rfl) rfl rfl (by decide +kernel) ?_
  refine n_aload C0 (i := 0) (x := 0) (r := .inl (2, k)) rfl rfl (by decide +kernel) ?_
  refine n_iconst C0 (n := ((3 : Nat) : Int)) (by decide +kernel) ?_
  refine n_newI C0 (L := 3) (hly 2 (by decide)) (fun _ => rfl) (by decide) n_aI (Nat.le_of_ble_eq_true rfl) (Nat.le_of_ble_eq_true rfl) (by decide +kernel) ?_
  refine n_putR C0 (idx := 15) (j := 2) (t := 4) (o := 2) (x := 3) rfl rfl (by decide) (by decide) (by decide +kernel) (gTB_at 346 (by decide +kernel) rfl) rfl rfl (by decide +kernel) ?_
  refine n_aload C0 (i := 0) (x := 0) (r := .inl (2, k)) rfl rfl (by decide +kernel) ?_
  refine n_bipush C0 (n := ((8 : Nat) : Int)) (by decide +kernel) (by decide +kernel) ?_
  refine n_newI C0 (L := 8) (hly 3 (by decide)) (fun _ => rfl) (by decide) n_aI (Nat.le_of_ble_eq_true rfl) (Nat.le_of_ble_eq_true rfl) (by decide +kernel) ?_
  refine n_putR C0 (idx := 18) (j := 4) (t := 4) (o := 3) (x := 8) rfl rfl (by decide) (by decide) (by decide +kernel) (gTB_at 349 (by decide +kernel) rfl) rfl rfl (by decide +kernel) ?_
  refine n_aload C0 (i := 0) (x := 0) (r := .inl (2, k)) rfl rfl (by decide +kernel) ?_
  refine n_bipush C0 (n := ((8 : Nat) : Int)) (by decide +kernel) (by decide +kernel) ?_
  refine n_newI C0 (L := 8) (hly 4 (by decide)) (fun _ => rfl) (by decide) n_aI (Nat.le_of_ble_eq_true rfl) (Nat.le_of_ble_eq_true rfl) (by decide +kernel) ?_
  refine n_putR C0 (idx := 21) (j := 5) (t := 4) (o := 4) (x := 8) rfl rfl (by decide) (by decide) (by decide +kernel) (gTB_at 350 (by decide +kernel) rfl) rfl rfl (by decide +kernel) ?_
  refine n_aload C0 (i := 0) (x := 0) (r := .inl (2, k)) rfl rfl (by decide +kernel) ?_
  refine n_bipush C0 (n := ((8 : Nat) : Int)) (by decide +kernel) (by decide +kernel) ?_
  refine n_newI C0 (L := 8) (hly 5 (by decide)) (fun _ => rfl) (by decide) n_aI (Nat.le_of_ble_eq_true rfl) (Nat.le_of_ble_eq_true rfl) (by decide +kernel) ?_
  refine n_putR C0 (idx := 24) (j := 6) (t := 4) (o := 5) (x := 8) rfl rfl (by decide) (by decide) (by decide +kernel) (gTB_at 351 (by decide +kernel) rfl) rfl rfl (by decide +kernel) ?_
  refine n_aload C0 (i := 0) (x := 0) (r := .inl (2, k)) rfl rfl (by decide +kernel) ?_
  refine n_bipush C0 (n := ((8 : Nat) : Int)) (by decide +kernel) (by decide +kernel) ?_
  refine n_newI C0 (L := 8) (hly 6 (by decide)) (fun _ => rfl) (by decide) n_aI (Nat.le_of_ble_eq_true rfl) (Nat.le_of_ble_eq_true rfl) (by decide +kernel) ?_
  refine n_putR C0 (idx := 27) (j := 7) (t := 4) (o := 6) (x := 8) rfl rfl (by decide) (by decide) (by decide +kernel) (gTB_at 352 (by decide +kernel) rfl) rfl rfl (by decide +kernel) ?_
  exact n_ret C0 (hly 0 (by decide)) (by decide) (by decide +kernel) (fun _ _ _ => rfl) (fun _ h => h) (by decide +kernel)
set_option maxRecDepth 20000 in
theorem n_Queue (l : Launch) (D : va_G) (a0 : Nat) (cI cJ : ClassId) {k : Nat} (hly : nly k nL3) : nMet l D a0 cI cJ (⟨gown 3, "<init>", "()V"⟩ : MethodName) prog_5_method_1_code 1 1 12 k 3 5 128 (nZ) := by
  refine n_met (ls0 := [gO 3 k]) rfl (by decide +kernel) rfl rfl (by decide) (by decide) (fun C0 => ?_)
  show nW _ _ _ _ _ _ _ _ _ _ _ _ _ _ _ _ _ _ _ _ _ _ _ nZ _ _
  refine n_aload C0 (i := 0) (x := 0) (r := .inl (3, k)) rfl rfl (by decide +kernel) ?_
  refine n_objInit C0 (idx := 3) rfl (gTB_at 230 (by decide +kernel) rfl) n_oi1 n_oi2 (Nat.le_of_ble_eq_true rfl) (Nat.le_of_ble_eq_true rfl) (by decide +kernel) ?_
  refine n_aload C0 (i := 0) (x := 0) (r := .inl (3, k)) rfl rfl (by decide +kernel) ?_
  refine n_bipush C0 (n := ((32 : Nat) : Int)) (by decide +kernel) (by decide +kernel) ?_
  refine n_newI C0 (L := 32) (hly 1 (by decide)) (fun _ => rfl) (by decide) n_aI (Nat.le_of_ble_eq_true rfl) (Nat.le_of_ble_eq_true rfl) (by decide +kernel) ?_
  refine n_putR C0 (idx := 11) (j := 1) (t := 4) (o := 1) (x := 32) rfl rfl (by decide) (by decide) (by decide +kernel) (gTB_at 234 (by decide +kernel) rfl) rfl rfl (by decide +kernel) ?_
  refine n_aload C0 (i := 0) (x := 0) (r := .inl (3, k)) rfl rfl (by decide +kernel) ?_
  refine n_bipush C0 (n := ((32 : Nat) : Int)) (by decide +kernel) (by decide +kernel) ?_
  refine n_newI C0 (L := 32) (hly 2 (by decide)) (fun _ => rfl) (by decide) n_aI (Nat.le_of_ble_eq_true rfl) (Nat.le_of_ble_eq_true rfl) (by decide +kernel) ?_
  refine n_putR C0 (idx := 15) (j := 2) (t := 4) (o := 2) (x := 32) rfl rfl (by decide) (by decide) (by decide +kernel) (gTB_at 236 (by decide +kernel) rfl) rfl rfl (by decide +kernel) ?_
  refine n_aload C0 (i := 0) (x := 0) (r := .inl (3, k)) rfl rfl (by decide +kernel) ?_
  refine n_bipush C0 (n := ((32 : Nat) : Int)) (by decide +kernel) (by decide +kernel) ?_
  refine n_newI C0 (L := 32) (hly 3 (by decide)) (fun _ => rfl) (by decide) n_aI (Nat.le_of_ble_eq_true rfl) (Nat.le_of_ble_eq_true rfl) (by decide +kernel) ?_
  refine n_putR C0 (idx := 18) (j := 3) (t := 4) (o := 3) (x := 32) rfl rfl (by decide) (by decide) (by decide +kernel) (gTB_at 238 (by decide +kernel) rfl) rfl rfl (by decide +kernel) ?_
  refine n_aload C0 (i := 0) (x := 0) (r := .inl (3, k)) rfl rfl (by decide +kernel) ?_
  refine n_bipush C0 (n := ((32 : Nat) : Int)) (by decide +kernel) (by decide +kernel) ?_
  refine n_newI C0 (L := 32) (hly 4 (by decide)) (fun _ => rfl) (by decide) n_aI (Nat.le_of_ble_eq_true rfl) (Nat.le_of_ble_eq_true rfl) (by decide +kernel) ?_
  refine n_putR C0 (idx := 21) (j := 4) (t := 4) (o := 4) (x := 32) rfl rfl (by decide) (by decide) (by decide +kernel) (gTB_at 240 (by decide +kernel) rfl) rfl rfl (by decide +kernel) ?_
  exact n_ret C0 (hly 0 (by decide)) (by decide) (by decide +kernel) (fun _ _ _ => rfl) (fun _ h => h) (by decide +kernel)
set_option maxRecDepth 20000 in
theorem n_Requests (l : Launch) (D : va_G) (a0 : Nat) (cI cJ : ClassId) {k : Nat} (hly : nly k nL5) : nMet l D a0 cI cJ (⟨gown 5, "<init>", "()V"⟩ : MethodName) prog_7_method_1_code 1 1 12 k 5 5 32 (nZ) := by
  refine n_met (ls0 := [gO 5 k]) rfl (by decide +kernel) rfl rfl (by decide) (by decide) (fun C0 => ?_)
  show nW _ _ _ _ _ _ _ _ _ _ _ _ _ _ _ _ _ _ _ _ _ _ _ nZ _ _
  refine n_aload C0 (i := 0) (x := 0) (r := .inl (5, k)) rfl rfl (by decide +kernel) ?_
  refine n_objInit C0 (idx := 3) rfl (gTB_at 298 (by decide +kernel) rfl) n_oi1 n_oi2 (Nat.le_of_ble_eq_true rfl) (Nat.le_of_ble_eq_true rfl) (by decide +kernel) ?_
  refine n_aload C0 (i := 0) (x := 0) (r := .inl (5, k)) rfl rfl (by decide +kernel) ?_
  refine n_bipush C0 (n := ((8 : Nat) : Int)) (by decide +kernel) (by decide +kernel) ?_
  refine n_newI C0 (L := 8) (hly 1 (by decide)) (fun _ => rfl) (by decide) n_aI (Nat.le_of_ble_eq_true rfl) (Nat.le_of_ble_eq_true rfl) (by decide +kernel) ?_
  refine n_putR C0 (idx := 9) (j := 1) (t := 4) (o := 1) (x := 8) rfl rfl (by decide) (by decide) (by decide +kernel) (gTB_at 302 (by decide +kernel) rfl) rfl rfl (by decide +kernel) ?_
  refine n_aload C0 (i := 0) (x := 0) (r := .inl (5, k)) rfl rfl (by decide +kernel) ?_
  refine n_bipush C0 (n := ((8 : Nat) : Int)) (by decide +kernel) (by decide +kernel) ?_
  refine n_newI C0 (L := 8) (hly 2 (by decide)) (fun _ => rfl) (by decide) n_aI (Nat.le_of_ble_eq_true rfl) (Nat.le_of_ble_eq_true rfl) (by decide +kernel) ?_
  refine n_putR C0 (idx := 15) (j := 2) (t := 4) (o := 2) (x := 8) rfl rfl (by decide) (by decide) (by decide +kernel) (gTB_at 304 (by decide +kernel) rfl) rfl rfl (by decide +kernel) ?_
  refine n_aload C0 (i := 0) (x := 0) (r := .inl (5, k)) rfl rfl (by decide +kernel) ?_
  refine n_bipush C0 (n := ((8 : Nat) : Int)) (by decide +kernel) (by decide +kernel) ?_
  refine n_newI C0 (L := 8) (hly 3 (by decide)) (fun _ => rfl) (by decide) n_aI (Nat.le_of_ble_eq_true rfl) (Nat.le_of_ble_eq_true rfl) (by decide +kernel) ?_
  refine n_putR C0 (idx := 18) (j := 3) (t := 4) (o := 3) (x := 8) rfl rfl (by decide) (by decide) (by decide +kernel) (gTB_at 306 (by decide +kernel) rfl) rfl rfl (by decide +kernel) ?_
  refine n_aload C0 (i := 0) (x := 0) (r := .inl (5, k)) rfl rfl (by decide +kernel) ?_
  refine n_bipush C0 (n := ((8 : Nat) : Int)) (by decide +kernel) (by decide +kernel) ?_
  refine n_newI C0 (L := 8) (hly 4 (by decide)) (fun _ => rfl) (by decide) n_aI (Nat.le_of_ble_eq_true rfl) (Nat.le_of_ble_eq_true rfl) (by decide +kernel) ?_
  refine n_putR C0 (idx := 21) (j := 4) (t := 4) (o := 4) (x := 8) rfl rfl (by decide) (by decide) (by decide +kernel) (gTB_at 308 (by decide +kernel) rfl) rfl rfl (by decide +kernel) ?_
  exact n_ret C0 (hly 0 (by decide)) (by decide) (by decide +kernel) (fun _ _ _ => rfl) (fun _ h => h) (by decide +kernel)
set_option maxRecDepth 20000 in
theorem n_Tables (l : Launch) (D : va_G) (a0 : Nat) (cI cJ : ClassId) {k : Nat} (hly : nly k nL7) : nMet l D a0 cI cJ (⟨gown 7, "<init>", "()V"⟩ : MethodName) prog_9_method_1_code 2 1 12 k 7 7 840 (nTab k) := by
  refine n_met (ls0 := [gO 7 k, gX]) rfl (by decide +kernel) rfl rfl (by decide) (by decide) (fun C0 => ?_)
  show nW _ _ _ _ _ _ _ _ _ _ _ _ _ _ _ _ _ _ _ _ _ _ _ nZ _ _
  refine n_aload C0 (i := 0) (x := 0) (r := .inl (7, k)) rfl rfl (by decide +kernel) ?_
  refine n_objInit C0 (idx := 3) rfl (gTB_at 175 (by decide +kernel) rfl) n_oi1 n_oi2 (Nat.le_of_ble_eq_true rfl) (Nat.le_of_ble_eq_true rfl) (by decide +kernel) ?_
  refine n_aload C0 (i := 0) (x := 0) (r := .inl (7, k)) rfl rfl (by decide +kernel) ?_
  refine n_iconst C0 (n := ((4 : Nat) : Int)) (by decide +kernel) ?_
  refine n_newI C0 (L := 4) (hly 1 (by decide)) (fun _ => rfl) (by decide) n_aI (Nat.le_of_ble_eq_true rfl) (Nat.le_of_ble_eq_true rfl) (by decide +kernel) ?_
  refine n_putR C0 (idx := 9) (j := 1) (t := 4) (o := 1) (x := 4) rfl rfl (by decide) (by decide) (by decide +kernel) (gTB_at 179 (by decide +kernel) rfl) rfl rfl (by decide +kernel) ?_
  refine n_aload C0 (i := 0) (x := 0) (r := .inl (7, k)) rfl rfl (by decide +kernel) ?_
  refine n_iconst C0 (n := ((4 : Nat) : Int)) (by decide +kernel) ?_
  refine n_newI C0 (L := 4) (hly 2 (by decide)) (fun _ => rfl) (by decide) n_aI (Nat.le_of_ble_eq_true rfl) (Nat.le_of_ble_eq_true rfl) (by decide +kernel) ?_
  refine n_putR C0 (idx := 15) (j := 2) (t := 4) (o := 2) (x := 4) rfl rfl (by decide) (by decide) (by decide +kernel) (gTB_at 182 (by decide +kernel) rfl) rfl rfl (by decide +kernel) ?_
  refine n_aload C0 (i := 0) (x := 0) (r := .inl (7, k)) rfl rfl (by decide +kernel) ?_
  refine n_sipush C0 (n := ((256 : Nat) : Int)) (by decide +kernel) (by decide +kernel) ?_
  refine n_newI C0 (L := 256) (hly 3 (by decide)) (fun _ => rfl) (by decide) n_aI (Nat.le_of_ble_eq_true rfl) (Nat.le_of_ble_eq_true rfl) (by decide +kernel) ?_
  refine n_putR C0 (idx := 18) (j := 3) (t := 4) (o := 3) (x := 256) rfl rfl (by decide) (by decide) (by decide +kernel) (gTB_at 185 (by decide +kernel) rfl) rfl rfl (by decide +kernel) ?_
  refine n_aload C0 (i := 0) (x := 0) (r := .inl (7, k)) rfl rfl (by decide +kernel) ?_
  refine n_sipush C0 (n := ((256 : Nat) : Int)) (by decide +kernel) (by decide +kernel) ?_
  refine n_newI C0 (L := 256) (hly 4 (by decide)) (fun _ => rfl) (by decide) n_aI (Nat.le_of_ble_eq_true rfl) (Nat.le_of_ble_eq_true rfl) (by decide +kernel) ?_
  refine n_putR C0 (idx := 21) (j := 4) (t := 4) (o := 4) (x := 256) rfl rfl (by decide) (by decide) (by decide +kernel) (gTB_at 186 (by decide +kernel) rfl) rfl rfl (by decide +kernel) ?_
  refine n_aload C0 (i := 0) (x := 0) (r := .inl (7, k)) rfl rfl (by decide +kernel) ?_
  refine n_sipush C0 (n := ((256 : Nat) : Int)) (by decide +kernel) (by decide +kernel) ?_
  refine n_newI C0 (L := 256) (hly 5 (by decide)) (fun _ => rfl) (by decide) n_aI (Nat.le_of_ble_eq_true rfl) (Nat.le_of_ble_eq_true rfl) (by decide +kernel) ?_
  refine n_putR C0 (idx := 24) (j := 5) (t := 4) (o := 5) (x := 256) rfl rfl (by decide) (by decide) (by decide +kernel) (gTB_at 187 (by decide +kernel) rfl) rfl rfl (by decide +kernel) ?_
  refine n_aload C0 (i := 0) (x := 0) (r := .inl (7, k)) rfl rfl (by decide +kernel) ?_
  refine n_bipush C0 (n := ((64 : Nat) : Int)) (by decide +kernel) (by decide +kernel) ?_
  refine n_newI C0 (L := 64) (hly 6 (by decide)) (fun _ => rfl) (by decide) n_aI (Nat.le_of_ble_eq_true rfl) (Nat.le_of_ble_eq_true rfl) (by decide +kernel) ?_
  refine n_putR C0 (idx := 27) (j := 6) (t := 4) (o := 6) (x := 64) rfl rfl (by decide) (by decide) (by decide +kernel) (gTB_at 188 (by decide +kernel) rfl) rfl rfl (by decide +kernel) ?_
  refine n_fill C0 (j := 3) (o := 3) (L := 256) (i1 := 18) rfl rfl (hly 3 (by decide)) (by decide) (by decide) (by decide) (by decide) (gTB_at 185 (by decide +kernel) rfl) rfl (by decide +kernel) (by decide +kernel) (by decide +kernel) (by decide +kernel) (by decide +kernel) (by decide +kernel) (by decide +kernel) (by decide +kernel) (by decide +kernel) (by decide +kernel) (by decide +kernel) (by decide +kernel) (by decide +kernel) (by decide +kernel) (fun z => ?_)
  exact n_ret C0 (hly 0 (by decide)) (by decide) (by decide +kernel) (fun _ _ _ => rfl) (fun _ h => h) (by decide +kernel)
set_option maxRecDepth 20000 in
theorem n_Tree (l : Launch) (D : va_G) (a0 : Nat) (cI cJ : ClassId) {k : Nat} (hly : nly k nL8) : nMet l D a0 cI cJ (⟨gown 8, "<init>", "()V"⟩ : MethodName) prog_10_method_1_code 1 1 12 k 8 14 92 (nTree k) := by
  refine n_met (ls0 := [gO 8 k]) rfl (by decide +kernel) rfl rfl (by decide) (by decide) (fun C0 => ?_)
  show nW _ _ _ _ _ _ _ _ _ _ _ _ _ _ _ _ _ _ _ _ _ _ _ nZ _ _
  refine n_aload C0 (i := 0) (x := 0) (r := .inl (8, k)) rfl rfl (by decide +kernel) ?_
  refine n_objInit C0 (idx := 3) rfl (gTB_at 38 (by decide +kernel) rfl) n_oi1 n_oi2 (Nat.le_of_ble_eq_true rfl) (Nat.le_of_ble_eq_true rfl) (by decide +kernel) ?_
  refine n_aload C0 (i := 0) (x := 0) (r := .inl (8, k)) rfl rfl (by decide +kernel) ?_
  refine n_bipush C0 (n := ((6 : Nat) : Int)) (by decide +kernel) (by decide +kernel) ?_
  refine n_newI C0 (L := 6) (hly 1 (by decide)) (fun _ => rfl) (by decide) n_aI (Nat.le_of_ble_eq_true rfl) (Nat.le_of_ble_eq_true rfl) (by decide +kernel) ?_
  refine n_putR C0 (idx := 9) (j := 1) (t := 4) (o := 1) (x := 6) rfl rfl (by decide) (by decide) (by decide +kernel) (gTB_at 42 (by decide +kernel) rfl) rfl rfl (by decide +kernel) ?_
  refine n_aload C0 (i := 0) (x := 0) (r := .inl (8, k)) rfl rfl (by decide +kernel) ?_
  refine n_bipush C0 (n := ((6 : Nat) : Int)) (by decide +kernel) (by decide +kernel) ?_
  refine n_newI C0 (L := 6) (hly 2 (by decide)) (fun _ => rfl) (by decide) n_aI (Nat.le_of_ble_eq_true rfl) (Nat.le_of_ble_eq_true rfl) (by decide +kernel) ?_
  refine n_putR C0 (idx := 15) (j := 2) (t := 4) (o := 2) (x := 6) rfl rfl (by decide) (by decide) (by decide +kernel) (gTB_at 43 (by decide +kernel) rfl) rfl rfl (by decide +kernel) ?_
  refine n_aload C0 (i := 0) (x := 0) (r := .inl (8, k)) rfl rfl (by decide +kernel) ?_
  refine n_bipush C0 (n := ((6 : Nat) : Int)) (by decide +kernel) (by decide +kernel) ?_
  refine n_newI C0 (L := 6) (hly 3 (by decide)) (fun _ => rfl) (by decide) n_aI (Nat.le_of_ble_eq_true rfl) (Nat.le_of_ble_eq_true rfl) (by decide +kernel) ?_
  refine n_putR C0 (idx := 18) (j := 3) (t := 4) (o := 3) (x := 6) rfl rfl (by decide) (by decide) (by decide +kernel) (gTB_at 44 (by decide +kernel) rfl) rfl rfl (by decide +kernel) ?_
  refine n_aload C0 (i := 0) (x := 0) (r := .inl (8, k)) rfl rfl (by decide +kernel) ?_
  refine n_bipush C0 (n := ((8 : Nat) : Int)) (by decide +kernel) (by decide +kernel) ?_
  refine n_newI C0 (L := 8) (hly 4 (by decide)) (fun _ => rfl) (by decide) n_aI (Nat.le_of_ble_eq_true rfl) (Nat.le_of_ble_eq_true rfl) (by decide +kernel) ?_
  refine n_putR C0 (idx := 21) (j := 5) (t := 4) (o := 4) (x := 8) rfl rfl (by decide) (by decide) (by decide +kernel) (gTB_at 49 (by decide +kernel) rfl) rfl rfl (by decide +kernel) ?_
  refine n_aload C0 (i := 0) (x := 0) (r := .inl (8, k)) rfl rfl (by decide +kernel) ?_
  refine n_bipush C0 (n := ((8 : Nat) : Int)) (by decide +kernel) (by decide +kernel) ?_
  refine n_newI C0 (L := 8) (hly 5 (by decide)) (fun _ => rfl) (by decide) n_aI (Nat.le_of_ble_eq_true rfl) (Nat.le_of_ble_eq_true rfl) (by decide +kernel) ?_
  refine n_putR C0 (idx := 24) (j := 6) (t := 4) (o := 5) (x := 8) rfl rfl (by decide) (by decide) (by decide +kernel) (gTB_at 50 (by decide +kernel) rfl) rfl rfl (by decide +kernel) ?_
  refine n_aload C0 (i := 0) (x := 0) (r := .inl (8, k)) rfl rfl (by decide +kernel) ?_
  refine n_bipush C0 (n := ((8 : Nat) : Int)) (by decide +kernel) (by decide +kernel) ?_
  refine n_newI C0 (L := 8) (hly 6 (by decide)) (fun _ => rfl) (by decide) n_aI (Nat.le_of_ble_eq_true rfl) (Nat.le_of_ble_eq_true rfl) (by decide +kernel) ?_
  refine n_putR C0 (idx := 27) (j := 7) (t := 4) (o := 6) (x := 8) rfl rfl (by decide) (by decide) (by decide +kernel) (gTB_at 52 (by decide +kernel) rfl) rfl rfl (by decide +kernel) ?_
  refine n_aload C0 (i := 0) (x := 0) (r := .inl (8, k)) rfl rfl (by decide +kernel) ?_
  refine n_bipush C0 (n := ((8 : Nat) : Int)) (by decide +kernel) (by decide +kernel) ?_
  refine n_newI C0 (L := 8) (hly 7 (by decide)) (fun _ => rfl) (by decide) n_aI (Nat.le_of_ble_eq_true rfl) (Nat.le_of_ble_eq_true rfl) (by decide +kernel) ?_
  refine n_putR C0 (idx := 30) (j := 9) (t := 4) (o := 7) (x := 8) rfl rfl (by decide) (by decide) (by decide +kernel) (gTB_at 58 (by decide +kernel) rfl) rfl rfl (by decide +kernel) ?_
  refine n_aload C0 (i := 0) (x := 0) (r := .inl (8, k)) rfl rfl (by decide +kernel) ?_
  refine n_bipush C0 (n := ((8 : Nat) : Int)) (by decide +kernel) (by decide +kernel) ?_
  refine n_newI C0 (L := 8) (hly 8 (by decide)) (fun _ => rfl) (by decide) n_aI (Nat.le_of_ble_eq_true rfl) (Nat.le_of_ble_eq_true rfl) (by decide +kernel) ?_
  refine n_putR C0 (idx := 33) (j := 10) (t := 4) (o := 8) (x := 8) rfl rfl (by decide) (by decide) (by decide +kernel) (gTB_at 59 (by decide +kernel) rfl) rfl rfl (by decide +kernel) ?_
  refine n_aload C0 (i := 0) (x := 0) (r := .inl (8, k)) rfl rfl (by decide +kernel) ?_
  refine n_bipush C0 (n := ((6 : Nat) : Int)) (by decide +kernel) (by decide +kernel) ?_
  refine n_newI C0 (L := 6) (hly 9 (by decide)) (fun _ => rfl) (by decide) n_aI (Nat.le_of_ble_eq_true rfl) (Nat.le_of_ble_eq_true rfl) (by decide +kernel) ?_
  refine n_putR C0 (idx := 36) (j := 12) (t := 4) (o := 9) (x := 6) rfl rfl (by decide) (by decide) (by decide +kernel) (gTB_at 63 (by decide +kernel) rfl) rfl rfl (by decide +kernel) ?_
  refine n_aload C0 (i := 0) (x := 0) (r := .inl (8, k)) rfl rfl (by decide +kernel) ?_
  refine n_bipush C0 (n := ((6 : Nat) : Int)) (by decide +kernel) (by decide +kernel) ?_
  refine n_newI C0 (L := 6) (hly 10 (by decide)) (fun _ => rfl) (by decide) n_aI (Nat.le_of_ble_eq_true rfl) (Nat.le_of_ble_eq_true rfl) (by decide +kernel) ?_
  refine n_putR C0 (idx := 39) (j := 13) (t := 4) (o := 10) (x := 6) rfl rfl (by decide) (by decide) (by decide +kernel) (gTB_at 65 (by decide +kernel) rfl) rfl rfl (by decide +kernel) ?_
  refine n_aload C0 (i := 0) (x := 0) (r := .inl (8, k)) rfl rfl (by decide +kernel) ?_
  refine n_bipush C0 (n := ((6 : Nat) : Int)) (by decide +kernel) (by decide +kernel) ?_
  refine n_newI C0 (L := 6) (hly 11 (by decide)) (fun _ => rfl) (by decide) n_aI (Nat.le_of_ble_eq_true rfl) (Nat.le_of_ble_eq_true rfl) (by decide +kernel) ?_
  refine n_putR C0 (idx := 42) (j := 14) (t := 4) (o := 11) (x := 6) rfl rfl (by decide) (by decide) (by decide +kernel) (gTB_at 66 (by decide +kernel) rfl) rfl rfl (by decide +kernel) ?_
  refine n_aload C0 (i := 0) (x := 0) (r := .inl (8, k)) rfl rfl (by decide +kernel) ?_
  refine n_iconst C0 (n := ((4 : Nat) : Int)) (by decide +kernel) ?_
  refine n_putI C0 (idx := 45) (j := 15) (o := 0) (x := 0) rfl (by decide) (gTB_at 67 (by decide +kernel) rfl) rfl rfl (by decide +kernel) ?_
  show nW _ _ _ _ _ _ _ _ _ _ _ _ _ _ _ _ _ _ _ _ _ _ _ (nTree k) _ _
  refine n_aload C0 (i := 0) (x := 0) (r := .inl (8, k)) rfl rfl (by decide +kernel) ?_
  refine n_bipush C0 (n := ((8 : Nat) : Int)) (by decide +kernel) (by decide +kernel) ?_
  refine n_newI C0 (L := 8) (hly 12 (by decide)) (fun b => by unfold nTree; rw [gS_ne _ (by omega)]; rfl) (by decide) n_aI (Nat.le_of_ble_eq_true rfl) (Nat.le_of_ble_eq_true rfl) (by decide +kernel) ?_
  refine n_putR C0 (idx := 49) (j := 17) (t := 4) (o := 12) (x := 8) rfl rfl (by decide) (by decide) (by decide +kernel) (gTB_at 73 (by decide +kernel) rfl) rfl rfl (by decide +kernel) ?_
  refine n_aload C0 (i := 0) (x := 0) (r := .inl (8, k)) rfl rfl (by decide +kernel) ?_
  refine n_bipush C0 (n := ((8 : Nat) : Int)) (by decide +kernel) (by decide +kernel) ?_
  refine n_newI C0 (L := 8) (hly 13 (by decide)) (fun b => by unfold nTree; rw [gS_ne _ (by omega)]; rfl) (by decide) n_aI (Nat.le_of_ble_eq_true rfl) (Nat.le_of_ble_eq_true rfl) (by decide +kernel) ?_
  refine n_putR C0 (idx := 52) (j := 18) (t := 4) (o := 13) (x := 8) rfl rfl (by decide) (by decide) (by decide +kernel) (gTB_at 76 (by decide +kernel) rfl) rfl rfl (by decide +kernel) ?_
  exact n_ret C0 (hly 0 (by decide)) (by decide) (by decide +kernel) (fun _ _ _ => rfl) (fun _ h => h) (by decide +kernel)
theorem h4_0_1 {k : Nat} : ∀ q, q < k + 2 → (nTree (k + 2)) q = (nZ) q := fun q hq => by
  funext b
  simp only [nSta, nSta2, nRea, nGd, nTree, nTab, nmix, nfillM, gS, nZ]
  all_goals ((repeat' split) <;> first | rfl | omega)
theorem h4_0_2 {k : Nat} : ∀ q, k + 2 ≤ q → q < k + 2 + 14 → (nTree (k + 2)) q = (nTree (k + 2)) q := fun q hq hq2 => by
  funext b
  simp only [nSta, nSta2, nRea, nGd, nTree, nTab, nmix, nfillM, gS, nZ]
  all_goals ((repeat' split) <;> first | rfl | omega)
set_option maxRecDepth 20000 in
theorem n_Reader (l : Launch) (D : va_G) (a0 : Nat) (cI cJ : ClassId) {k : Nat} (hly : nly k nL4) : nMet l D a0 cI cJ (⟨gown 4, "<init>", "()V"⟩ : MethodName) prog_6_method_1_code 1 2 32 k 4 16 811 (nRea k) := by
  refine n_met (ls0 := [gO 4 k]) rfl (by decide +kernel) rfl rfl (by decide) (by decide) (fun C0 => ?_)
  show nW _ _ _ _ _ _ _ _ _ _ _ _ _ _ _ _ _ _ _ _ _ _ _ nZ _ _
  refine n_aload C0 (i := 0) (x := 0) (r := .inl (4, k)) rfl rfl (by decide +kernel) ?_
  refine n_objInit C0 (idx := 3) rfl (gTB_at 32 (by decide +kernel) rfl) n_oi1 n_oi2 (Nat.le_of_ble_eq_true rfl) (Nat.le_of_ble_eq_true rfl) (by decide +kernel) ?_
  refine n_aload C0 (i := 0) (x := 0) (r := .inl (4, k)) rfl rfl (by decide +kernel) ?_
  refine n_sipush C0 (n := ((700 : Nat) : Int)) (by decide +kernel) (by decide +kernel) ?_
  refine n_newI C0 (L := 700) (hly 1 (by decide)) (fun _ => rfl) (by decide) n_aI (Nat.le_of_ble_eq_true rfl) (Nat.le_of_ble_eq_true rfl) (by decide +kernel) ?_
  refine n_putR C0 (idx := 9) (j := 0) (t := 4) (o := 1) (x := 700) rfl rfl (by decide) (by decide) (by decide +kernel) (gTB_at 117 (by decide +kernel) rfl) rfl rfl (by decide +kernel) ?_
  refine n_aload C0 (i := 0) (x := 0) (r := .inl (4, k)) rfl rfl (by decide +kernel) ?_
  refine n_obj (i1 := 15) (i2 := 17) (cj := 8) (n := 14) (ms := 92) (NF := 19) (μc := nTree (k + 2)) (μ' := nTree (k + 2)) C0 rfl (by decide) (by decide) rfl (gTB_at 33 (by decide +kernel) rfl) (gTB_at 34 (by decide +kernel) rfl) (gTB_at 3 (by decide +kernel) rfl) rfl (by decide +kernel) (Or.inl (gNest_at 35 (by decide +kernel) rfl)) (gTB_at 36 (by decide +kernel) rfl) (gTB_at 37 (by decide +kernel) rfl) (n_Tree l D a0 cI cJ (nly_sub hly 2 rfl)) (by decide) h4_0_1 h4_0_2 (Nat.le_of_ble_eq_true rfl) (Nat.le_of_ble_eq_true rfl) (Nat.le_of_ble_eq_true rfl) (Nat.le_of_ble_eq_true rfl) (Nat.le_of_ble_eq_true rfl) (by decide +kernel) (by decide +kernel) (by decide +kernel) ?_
  refine n_putR C0 (idx := 18) (j := 2) (t := 3) (o := 2) (x := 8) rfl rfl (by decide) (by decide) (by decide +kernel) (gTB_at 120 (by decide +kernel) rfl) rfl rfl (by decide +kernel) ?_
  refine n_aload C0 (i := 0) (x := 0) (r := .inl (4, k)) rfl rfl (by decide +kernel) ?_
  refine n_iconst C0 (n := -1) (by decide +kernel) ?_
  refine n_putI C0 (idx := 22) (j := 12) (o := 0) (x := 0) rfl (by decide) (gTB_at 133 (by decide +kernel) rfl) rfl rfl (by decide +kernel) ?_
  show nW _ _ _ _ _ _ _ _ _ _ _ _ _ _ _ _ _ _ _ _ _ _ _ (nRea k) _ _
  exact n_ret C0 (hly 0 (by decide)) (by decide) (by decide +kernel) (fun _ _ _ => rfl) (fun _ h => h) (by decide +kernel)
theorem h6_0_1 {k : Nat} : ∀ q, q < k + 1 → (nTree (k + 1)) q = (nZ) q := fun q hq => by
  funext b
  simp only [nSta, nSta2, nRea, nGd, nTree, nTab, nmix, nfillM, gS, nZ]
  all_goals ((repeat' split) <;> first | rfl | omega)
theorem h6_0_2 {k : Nat} : ∀ q, k + 1 ≤ q → q < k + 1 + 14 → (nTree (k + 1)) q = (nTree (k + 1)) q := fun q hq hq2 => by
  funext b
  simp only [nSta, nSta2, nRea, nGd, nTree, nTab, nmix, nfillM, gS, nZ]
  all_goals ((repeat' split) <;> first | rfl | omega)
theorem h6_1_1 {k : Nat} : ∀ q, q < k + 15 → (nSta2 k) q = (nTree (k + 1)) q := fun q hq => by
  funext b
  simp only [nSta, nSta2, nRea, nGd, nTree, nTab, nmix, nfillM, gS, nZ]
  all_goals ((repeat' split) <;> first | rfl | omega)
theorem h6_1_2 {k : Nat} : ∀ q, k + 15 ≤ q → q < k + 15 + 7 → (nSta2 k) q = (nTab (k + 15)) q := fun q hq hq2 => by
  funext b
  simp only [nSta, nSta2, nRea, nGd, nTree, nTab, nmix, nfillM, gS, nZ]
  all_goals ((repeat' split) <;> first | rfl | omega)
theorem h6_2_1 {k : Nat} : ∀ q, q < k + 22 → (nSta2 k) q = (nSta2 k) q := fun q hq => by
  funext b
  simp only [nSta, nSta2, nRea, nGd, nTree, nTab, nmix, nfillM, gS, nZ]
  all_goals ((repeat' split) <;> first | rfl | omega)
theorem h6_2_2 {k : Nat} : ∀ q, k + 22 ≤ q → q < k + 22 + 5 → (nSta2 k) q = (nZ) q := fun q hq hq2 => by
  funext b
  simp only [nSta, nSta2, nRea, nGd, nTree, nTab, nmix, nfillM, gS, nZ]
  all_goals ((repeat' split) <;> first | rfl | omega)
theorem h6_3_1 {k : Nat} : ∀ q, q < k + 27 → (nSta2 k) q = (nSta2 k) q := fun q hq => by
  funext b
  simp only [nSta, nSta2, nRea, nGd, nTree, nTab, nmix, nfillM, gS, nZ]
  all_goals ((repeat' split) <;> first | rfl | omega)
theorem h6_3_2 {k : Nat} : ∀ q, k + 27 ≤ q → q < k + 27 + 5 → (nSta2 k) q = (nZ) q := fun q hq hq2 => by
  funext b
  simp only [nSta, nSta2, nRea, nGd, nTree, nTab, nmix, nfillM, gS, nZ]
  all_goals ((repeat' split) <;> first | rfl | omega)
theorem h6_4_1 {k : Nat} : ∀ q, q < k + 32 → (nSta2 k) q = (nSta2 k) q := fun q hq => by
  funext b
  simp only [nSta, nSta2, nRea, nGd, nTree, nTab, nmix, nfillM, gS, nZ]
  all_goals ((repeat' split) <;> first | rfl | omega)
theorem h6_4_2 {k : Nat} : ∀ q, k + 32 ≤ q → q < k + 32 + 5 → (nSta2 k) q = (nZ) q := fun q hq hq2 => by
  funext b
  simp only [nSta, nSta2, nRea, nGd, nTree, nTab, nmix, nfillM, gS, nZ]
  all_goals ((repeat' split) <;> first | rfl | omega)
theorem h6_5_1 {k : Nat} : ∀ q, q < k + 37 → (nSta2 k) q = (nSta2 k) q := fun q hq => by
  funext b
  simp only [nSta, nSta2, nRea, nGd, nTree, nTab, nmix, nfillM, gS, nZ]
  all_goals ((repeat' split) <;> first | rfl | omega)
theorem h6_5_2 {k : Nat} : ∀ q, k + 37 ≤ q → q < k + 37 + 5 → (nSta2 k) q = (nZ) q := fun q hq hq2 => by
  funext b
  simp only [nSta, nSta2, nRea, nGd, nTree, nTab, nmix, nfillM, gS, nZ]
  all_goals ((repeat' split) <;> first | rfl | omega)
theorem h6_6_1 {k : Nat} : ∀ q, q < k + 42 → (nSta2 k) q = (nSta2 k) q := fun q hq => by
  funext b
  simp only [nSta, nSta2, nRea, nGd, nTree, nTab, nmix, nfillM, gS, nZ]
  all_goals ((repeat' split) <;> first | rfl | omega)
theorem h6_6_2 {k : Nat} : ∀ q, k + 42 ≤ q → q < k + 42 + 7 → (nSta2 k) q = (nZ) q := fun q hq hq2 => by
  funext b
  simp only [nSta, nSta2, nRea, nGd, nTree, nTab, nmix, nfillM, gS, nZ]
  all_goals ((repeat' split) <;> first | rfl | omega)
set_option maxRecDepth 20000 in
theorem n_State (l : Launch) (D : va_G) (a0 : Nat) (cI cJ : ClassId) {k : Nat} (hly : nly k nL6) : nMet l D a0 cI cJ (⟨gown 6, "<init>", "()V"⟩ : MethodName) prog_8_method_1_code 2 2 33 k 6 50 1713 (nSta k) := by
  refine n_met (ls0 := [gO 6 k, gX]) rfl (by decide +kernel) rfl rfl (by decide) (by decide) (fun C0 => ?_)
  show nW _ _ _ _ _ _ _ _ _ _ _ _ _ _ _ _ _ _ _ _ _ _ _ nZ _ _
  refine n_aload C0 (i := 0) (x := 0) (r := .inl (6, k)) rfl rfl (by decide +kernel) ?_
  refine n_objInit C0 (idx := 3) rfl (gTB_at 167 (by decide +kernel) rfl) n_oi1 n_oi2 (Nat.le_of_ble_eq_true rfl) (Nat.le_of_ble_eq_true rfl) (by decide +kernel) ?_
  refine n_aload C0 (i := 0) (x := 0) (r := .inl (6, k)) rfl rfl (by decide +kernel) ?_
  refine n_obj (i1 := 9) (i2 := 11) (cj := 8) (n := 14) (ms := 92) (NF := 19) (μc := nTree (k + 1)) (μ' := nTree (k + 1)) C0 rfl (by decide) (by decide) rfl (gTB_at 168 (by decide +kernel) rfl) (gTB_at 34 (by decide +kernel) rfl) (gTB_at 3 (by decide +kernel) rfl) rfl (by decide +kernel) (Or.inl (gNest_at 169 (by decide +kernel) rfl)) (gTB_at 36 (by decide +kernel) rfl) (gTB_at 37 (by decide +kernel) rfl) (n_Tree l D a0 cI cJ (nly_sub hly 1 rfl)) (by decide) h6_0_1 h6_0_2 (Nat.le_of_ble_eq_true rfl) (Nat.le_of_ble_eq_true rfl) (Nat.le_of_ble_eq_true rfl) (Nat.le_of_ble_eq_true rfl) (Nat.le_of_ble_eq_true rfl) (by decide +kernel) (by decide +kernel) (by decide +kernel) ?_
  refine n_putR C0 (idx := 12) (j := 0) (t := 3) (o := 1) (x := 8) rfl rfl (by decide) (by decide) (by decide +kernel) (gTB_at 385 (by decide +kernel) rfl) rfl rfl (by decide +kernel) ?_
  refine n_aload C0 (i := 0) (x := 0) (r := .inl (6, k)) rfl rfl (by decide +kernel) ?_
  refine n_obj (i1 := 18) (i2 := 20) (cj := 7) (n := 7) (ms := 840) (NF := 7) (μc := nTab (k + 15)) (μ' := nSta2 k) C0 rfl (by decide) (by decide) rfl (gTB_at 170 (by decide +kernel) rfl) (gTB_at 171 (by decide +kernel) rfl) (gTB_at 5 (by decide +kernel) rfl) rfl (by decide +kernel) (Or.inr (gTB_at 172 (by decide +kernel) rfl)) (gTB_at 173 (by decide +kernel) rfl) (gTB_at 174 (by decide +kernel) rfl) (n_Tables l D a0 cI cJ (nly_sub hly 15 rfl)) (by decide) h6_1_1 h6_1_2 (Nat.le_of_ble_eq_true rfl) (Nat.le_of_ble_eq_true rfl) (Nat.le_of_ble_eq_true rfl) (Nat.le_of_ble_eq_true rfl) (Nat.le_of_ble_eq_true rfl) (by decide +kernel) (by decide +kernel) (by decide +kernel) ?_
  refine n_putR C0 (idx := 21) (j := 1) (t := 3) (o := 15) (x := 7) rfl rfl (by decide) (by decide) (by decide +kernel) (gTB_at 387 (by decide +kernel) rfl) rfl rfl (by decide +kernel) ?_
  refine n_aload C0 (i := 0) (x := 0) (r := .inl (6, k)) rfl rfl (by decide +kernel) ?_
  refine n_obj (i1 := 25) (i2 := 27) (cj := 1) (n := 5) (ms := 448) (NF := 4) (μc := nZ) (μ' := nSta2 k) C0 rfl (by decide) (by decide) rfl (gTB_at 204 (by decide +kernel) rfl) (gTB_at 205 (by decide +kernel) rfl) (gTB_at 6 (by decide +kernel) rfl) rfl (by decide +kernel) (Or.inl (gNest_at 206 (by decide +kernel) rfl)) (gTB_at 207 (by decide +kernel) rfl) (gTB_at 208 (by decide +kernel) rfl) (n_Frames l D a0 cI cJ (nly_sub hly 22 rfl)) (by decide) h6_2_1 h6_2_2 (Nat.le_of_ble_eq_true rfl) (Nat.le_of_ble_eq_true rfl) (Nat.le_of_ble_eq_true rfl) (Nat.le_of_ble_eq_true rfl) (Nat.le_of_ble_eq_true rfl) (by decide +kernel) (by decide +kernel) (by decide +kernel) ?_
  refine n_putR C0 (idx := 28) (j := 2) (t := 3) (o := 22) (x := 1) rfl rfl (by decide) (by decide) (by decide +kernel) (gTB_at 389 (by decide +kernel) rfl) rfl rfl (by decide +kernel) ?_
  refine n_aload C0 (i := 0) (x := 0) (r := .inl (6, k)) rfl rfl (by decide +kernel) ?_
  refine n_obj (i1 := 32) (i2 := 34) (cj := 3) (n := 5) (ms := 128) (NF := 8) (μc := nZ) (μ' := nSta2 k) C0 rfl (by decide) (by decide) rfl (gTB_at 225 (by decide +kernel) rfl) (gTB_at 226 (by decide +kernel) rfl) (gTB_at 7 (by decide +kernel) rfl) rfl (by decide +kernel) (Or.inl (gNest_at 227 (by decide +kernel) rfl)) (gTB_at 228 (by decide +kernel) rfl) (gTB_at 229 (by decide +kernel) rfl) (n_Queue l D a0 cI cJ (nly_sub hly 27 rfl)) (by decide) h6_3_1 h6_3_2 (Nat.le_of_ble_eq_true rfl) (Nat.le_of_ble_eq_true rfl) (Nat.le_of_ble_eq_true rfl) (Nat.le_of_ble_eq_true rfl) (Nat.le_of_ble_eq_true rfl) (by decide +kernel) (by decide +kernel) (by decide +kernel) ?_
  refine n_putR C0 (idx := 35) (j := 3) (t := 3) (o := 27) (x := 3) rfl rfl (by decide) (by decide) (by decide +kernel) (gTB_at 391 (by decide +kernel) rfl) rfl rfl (by decide +kernel) ?_
  refine n_aload C0 (i := 0) (x := 0) (r := .inl (6, k)) rfl rfl (by decide +kernel) ?_
  refine n_obj (i1 := 39) (i2 := 41) (cj := 0) (n := 5) (ms := 64) (NF := 5) (μc := nZ) (μ' := nSta2 k) C0 rfl (by decide) (by decide) rfl (gTB_at 265 (by decide +kernel) rfl) (gTB_at 266 (by decide +kernel) rfl) (gTB_at 8 (by decide +kernel) rfl) rfl (by decide +kernel) (Or.inl (gNest_at 267 (by decide +kernel) rfl)) (gTB_at 268 (by decide +kernel) rfl) (gTB_at 269 (by decide +kernel) rfl) (n_Cache l D a0 cI cJ (nly_sub hly 32 rfl)) (by decide) h6_4_1 h6_4_2 (Nat.le_of_ble_eq_true rfl) (Nat.le_of_ble_eq_true rfl) (Nat.le_of_ble_eq_true rfl) (Nat.le_of_ble_eq_true rfl) (Nat.le_of_ble_eq_true rfl) (by decide +kernel) (by decide +kernel) (by decide +kernel) ?_
  refine n_putR C0 (idx := 42) (j := 4) (t := 3) (o := 32) (x := 0) rfl rfl (by decide) (by decide) (by decide +kernel) (gTB_at 393 (by decide +kernel) rfl) rfl rfl (by decide +kernel) ?_
  refine n_aload C0 (i := 0) (x := 0) (r := .inl (6, k)) rfl rfl (by decide +kernel) ?_
  refine n_obj (i1 := 46) (i2 := 48) (cj := 5) (n := 5) (ms := 32) (NF := 9) (μc := nZ) (μ' := nSta2 k) C0 rfl (by decide) (by decide) rfl (gTB_at 293 (by decide +kernel) rfl) (gTB_at 294 (by decide +kernel) rfl) (gTB_at 9 (by decide +kernel) rfl) rfl (by decide +kernel) (Or.inl (gNest_at 295 (by decide +kernel) rfl)) (gTB_at 296 (by decide +kernel) rfl) (gTB_at 297 (by decide +kernel) rfl) (n_Requests l D a0 cI cJ (nly_sub hly 37 rfl)) (by decide) h6_5_1 h6_5_2 (Nat.le_of_ble_eq_true rfl) (Nat.le_of_ble_eq_true rfl) (Nat.le_of_ble_eq_true rfl) (Nat.le_of_ble_eq_true rfl) (Nat.le_of_ble_eq_true rfl) (by decide +kernel) (by decide +kernel) (by decide +kernel) ?_
  refine n_putR C0 (idx := 49) (j := 5) (t := 3) (o := 37) (x := 5) rfl rfl (by decide) (by decide) (by decide +kernel) (gTB_at 395 (by decide +kernel) rfl) rfl rfl (by decide +kernel) ?_
  refine n_aload C0 (i := 0) (x := 0) (r := .inl (6, k)) rfl rfl (by decide +kernel) ?_
  refine n_obj (i1 := 53) (i2 := 55) (cj := 2) (n := 7) (ms := 38) (NF := 11) (μc := nZ) (μ' := nSta2 k) C0 rfl (by decide) (by decide) rfl (gTB_at 338 (by decide +kernel) rfl) (gTB_at 339 (by decide +kernel) rfl) (gTB_at 10 (by decide +kernel) rfl) rfl (by decide +kernel) (Or.inl (gNest_at 340 (by decide +kernel) rfl)) (gTB_at 341 (by decide +kernel) rfl) (gTB_at 342 (by decide +kernel) rfl) (n_Log l D a0 cI cJ (nly_sub hly 42 rfl)) (by decide) h6_6_1 h6_6_2 (Nat.le_of_ble_eq_true rfl) (Nat.le_of_ble_eq_true rfl) (Nat.le_of_ble_eq_true rfl) (Nat.le_of_ble_eq_true rfl) (Nat.le_of_ble_eq_true rfl) (by decide +kernel) (by decide +kernel) (by decide +kernel) ?_
  refine n_putR C0 (idx := 56) (j := 6) (t := 3) (o := 42) (x := 2) rfl rfl (by decide) (by decide) (by decide +kernel) (gTB_at 397 (by decide +kernel) rfl) rfl rfl (by decide +kernel) ?_
  refine n_aload C0 (i := 0) (x := 0) (r := .inl (6, k)) rfl rfl (by decide +kernel) ?_
  refine n_bipush C0 (n := ((8 : Nat) : Int)) (by decide +kernel) (by decide +kernel) ?_
  refine n_newI C0 (L := 8) (hly 49 (by decide)) (fun b => by unfold nSta2 nmix nTab nfillM; rw [if_pos (by omega), if_neg (by omega)]; rfl) (by decide) n_aI (Nat.le_of_ble_eq_true rfl) (Nat.le_of_ble_eq_true rfl) (by decide +kernel) ?_
  refine n_putR C0 (idx := 60) (j := 7) (t := 4) (o := 49) (x := 8) rfl rfl (by decide) (by decide) (by decide +kernel) (gTB_at 399 (by decide +kernel) rfl) rfl rfl (by decide +kernel) ?_
  refine n_fill C0 (j := 7) (o := 49) (L := 8) (i1 := 60) rfl rfl (hly 49 (by decide)) (by decide) (by decide) (by decide) (by decide) (gTB_at 399 (by decide +kernel) rfl) rfl (by decide +kernel) (by decide +kernel) (by decide +kernel) (by decide +kernel) (by decide +kernel) (by decide +kernel) (by decide +kernel) (by decide +kernel) (by decide +kernel) (by decide +kernel) (by decide +kernel) (by decide +kernel) (by decide +kernel) (by decide +kernel) (fun z => ?_)
  exact n_ret C0 (hly 0 (by decide)) (by decide) (by decide +kernel) (fun _ _ _ => rfl) (fun _ h => h) (by decide +kernel)
theorem h9_0_1 {k : Nat} : ∀ q, q < k + 1 → (nRea (k + 1)) q = (nZ) q := fun q hq => by
  funext b
  simp only [nSta, nSta2, nRea, nGd, nTree, nTab, nmix, nfillM, gS, nZ]
  all_goals ((repeat' split) <;> first | rfl | omega)
theorem h9_0_2 {k : Nat} : ∀ q, k + 1 ≤ q → q < k + 1 + 16 → (nRea (k + 1)) q = (nRea (k + 1)) q := fun q hq hq2 => by
  funext b
  simp only [nSta, nSta2, nRea, nGd, nTree, nTab, nmix, nfillM, gS, nZ]
  all_goals ((repeat' split) <;> first | rfl | omega)
theorem h9_1_1 {k : Nat} : ∀ q, q < k + 17 → (nmix (k + 17) (nSta (k + 17)) (nRea (k + 1))) q = (nRea (k + 1)) q := fun q hq => by
  funext b
  simp only [nSta, nSta2, nRea, nGd, nTree, nTab, nmix, nfillM, gS, nZ]
  all_goals ((repeat' split) <;> first | rfl | omega)
theorem h9_1_2 {k : Nat} : ∀ q, k + 17 ≤ q → q < k + 17 + 50 → (nmix (k + 17) (nSta (k + 17)) (nRea (k + 1))) q = (nSta (k + 17)) q := fun q hq hq2 => by
  funext b
  simp only [nSta, nSta2, nRea, nGd, nTree, nTab, nmix, nfillM, gS, nZ]
  all_goals ((repeat' split) <;> first | rfl | omega)
theorem h9_2_1 {k : Nat} : ∀ q, q < k + 67 → (nmix (k + 67) (nSta (k + 67)) (nmix (k + 17) (nSta (k + 17)) (nRea (k + 1)))) q = (nmix (k + 17) (nSta (k + 17)) (nRea (k + 1))) q := fun q hq => by
  funext b
  simp only [nSta, nSta2, nRea, nGd, nTree, nTab, nmix, nfillM, gS, nZ]
  all_goals ((repeat' split) <;> first | rfl | omega)
theorem h9_2_2 {k : Nat} : ∀ q, k + 67 ≤ q → q < k + 67 + 50 → (nmix (k + 67) (nSta (k + 67)) (nmix (k + 17) (nSta (k + 17)) (nRea (k + 1)))) q = (nSta (k + 67)) q := fun q hq hq2 => by
  funext b
  simp only [nSta, nSta2, nRea, nGd, nTree, nTab, nmix, nfillM, gS, nZ]
  all_goals ((repeat' split) <;> first | rfl | omega)
theorem h9_3_1 {k : Nat} : ∀ q, q < k + 117 → (nGd k) q = (nmix (k + 67) (nSta (k + 67)) (nmix (k + 17) (nSta (k + 17)) (nRea (k + 1)))) q := fun q hq => by
  funext b
  simp only [nSta, nSta2, nRea, nGd, nTree, nTab, nmix, nfillM, gS, nZ]
  all_goals ((repeat' split) <;> first | rfl | omega)
theorem h9_3_2 {k : Nat} : ∀ q, k + 117 ≤ q → q < k + 117 + 50 → (nGd k) q = (nSta (k + 117)) q := fun q hq hq2 => by
  funext b
  simp only [nSta, nSta2, nRea, nGd, nTree, nTab, nmix, nfillM, gS, nZ]
  all_goals ((repeat' split) <;> first | rfl | omega)
set_option maxRecDepth 20000 in
theorem n_Gated (l : Launch) (D : va_G) (a0 : Nat) (cI cJ : ClassId) {k : Nat} (hly : nly k nL9) : nMet l D a0 cI cJ (⟨gown 9, "<init>", "()V"⟩ : MethodName) prog_1_method_1_code 1 3 54 k 9 167 5987 (nGd k) := by
  refine n_met (ls0 := [gO 9 k]) rfl (by decide +kernel) rfl rfl (by decide) (by decide) (fun C0 => ?_)
  show nW _ _ _ _ _ _ _ _ _ _ _ _ _ _ _ _ _ _ _ _ _ _ _ nZ _ _
  refine n_aload C0 (i := 0) (x := 0) (r := .inl (9, k)) rfl rfl (by decide +kernel) ?_
  refine n_objInit C0 (idx := 1) rfl (gTB_at 24 (by decide +kernel) rfl) n_oi1 n_oi2 (Nat.le_of_ble_eq_true rfl) (Nat.le_of_ble_eq_true rfl) (by decide +kernel) ?_
  refine n_aload C0 (i := 0) (x := 0) (r := .inl (9, k)) rfl rfl (by decide +kernel) ?_
  refine n_obj (i1 := 7) (i2 := 9) (cj := 4) (n := 16) (ms := 811) (NF := 13) (μc := nRea (k + 1)) (μ' := nRea (k + 1)) C0 rfl (by decide) (by decide) rfl (gTB_at 27 (by decide +kernel) rfl) (gTB_at 28 (by decide +kernel) rfl) (gTB_at 2 (by decide +kernel) rfl) rfl (by decide +kernel) (Or.inl (gNest_at 29 (by decide +kernel) rfl)) (gTB_at 30 (by decide +kernel) rfl) (gTB_at 31 (by decide +kernel) rfl) (n_Reader l D a0 cI cJ (nly_sub hly 1 rfl)) (by decide) h9_0_1 h9_0_2 (Nat.le_of_ble_eq_true rfl) (Nat.le_of_ble_eq_true rfl) (Nat.le_of_ble_eq_true rfl) (Nat.le_of_ble_eq_true rfl) (Nat.le_of_ble_eq_true rfl) (by decide +kernel) (by decide +kernel) (by decide +kernel) ?_
  refine n_putR C0 (idx := 10) (j := 0) (t := 3) (o := 1) (x := 4) rfl rfl (by decide) (by decide) (by decide +kernel) (gTB_at 417 (by decide +kernel) rfl) rfl rfl (by decide +kernel) ?_
  refine n_aload C0 (i := 0) (x := 0) (r := .inl (9, k)) rfl rfl (by decide +kernel) ?_
  refine n_obj (i1 := 16) (i2 := 18) (cj := 6) (n := 50) (ms := 1713) (NF := 8) (μc := nSta (k + 17)) (μ' := nmix (k + 17) (nSta (k + 17)) (nRea (k + 1))) C0 rfl (by decide) (by decide) rfl (gTB_at 162 (by decide +kernel) rfl) (gTB_at 163 (by decide +kernel) rfl) (gTB_at 4 (by decide +kernel) rfl) rfl (by decide +kernel) (Or.inr (gTB_at 164 (by decide +kernel) rfl)) (gTB_at 165 (by decide +kernel) rfl) (gTB_at 166 (by decide +kernel) rfl) (n_State l D a0 cI cJ (nly_sub hly 17 rfl)) (by decide) h9_1_1 h9_1_2 (Nat.le_of_ble_eq_true rfl) (Nat.le_of_ble_eq_true rfl) (Nat.le_of_ble_eq_true rfl) (Nat.le_of_ble_eq_true rfl) (Nat.le_of_ble_eq_true rfl) (by decide +kernel) (by decide +kernel) (by decide +kernel) ?_
  refine n_putR C0 (idx := 19) (j := 1) (t := 3) (o := 17) (x := 6) rfl rfl (by decide) (by decide) (by decide +kernel) (gTB_at 418 (by decide +kernel) rfl) rfl rfl (by decide +kernel) ?_
  refine n_aload C0 (i := 0) (x := 0) (r := .inl (9, k)) rfl rfl (by decide +kernel) ?_
  refine n_obj (i1 := 16) (i2 := 18) (cj := 6) (n := 50) (ms := 1713) (NF := 8) (μc := nSta (k + 67)) (μ' := nmix (k + 67) (nSta (k + 67)) (nmix (k + 17) (nSta (k + 17)) (nRea (k + 1)))) C0 rfl (by decide) (by decide) rfl (gTB_at 162 (by decide +kernel) rfl) (gTB_at 163 (by decide +kernel) rfl) (gTB_at 4 (by decide +kernel) rfl) rfl (by decide +kernel) (Or.inr (gTB_at 164 (by decide +kernel) rfl)) (gTB_at 165 (by decide +kernel) rfl) (gTB_at 166 (by decide +kernel) rfl) (n_State l D a0 cI cJ (nly_sub hly 67 rfl)) (by decide) h9_2_1 h9_2_2 (Nat.le_of_ble_eq_true rfl) (Nat.le_of_ble_eq_true rfl) (Nat.le_of_ble_eq_true rfl) (Nat.le_of_ble_eq_true rfl) (Nat.le_of_ble_eq_true rfl) (by decide +kernel) (by decide +kernel) (by decide +kernel) ?_
  refine n_putR C0 (idx := 23) (j := 2) (t := 3) (o := 67) (x := 6) rfl rfl (by decide) (by decide) (by decide +kernel) (gTB_at 419 (by decide +kernel) rfl) rfl rfl (by decide +kernel) ?_
  refine n_aload C0 (i := 0) (x := 0) (r := .inl (9, k)) rfl rfl (by decide +kernel) ?_
  refine n_obj (i1 := 16) (i2 := 18) (cj := 6) (n := 50) (ms := 1713) (NF := 8) (μc := nSta (k + 117)) (μ' := nGd k) C0 rfl (by decide) (by decide) rfl (gTB_at 162 (by decide +kernel) rfl) (gTB_at 163 (by decide +kernel) rfl) (gTB_at 4 (by decide +kernel) rfl) rfl (by decide +kernel) (Or.inr (gTB_at 164 (by decide +kernel) rfl)) (gTB_at 165 (by decide +kernel) rfl) (gTB_at 166 (by decide +kernel) rfl) (n_State l D a0 cI cJ (nly_sub hly 117 rfl)) (by decide) h9_3_1 h9_3_2 (Nat.le_of_ble_eq_true rfl) (Nat.le_of_ble_eq_true rfl) (Nat.le_of_ble_eq_true rfl) (Nat.le_of_ble_eq_true rfl) (Nat.le_of_ble_eq_true rfl) (by decide +kernel) (by decide +kernel) (by decide +kernel) ?_
  refine n_putR C0 (idx := 26) (j := 3) (t := 3) (o := 117) (x := 6) rfl rfl (by decide) (by decide) (by decide +kernel) (gTB_at 420 (by decide +kernel) rfl) rfl rfl (by decide +kernel) ?_
  exact n_ret C0 (hly 0 (by decide)) (by decide) (by decide +kernel) (fun _ _ _ => rfl) (fun _ h => h) (by decide +kernel)
