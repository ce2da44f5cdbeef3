/-! steps that neither read the store nor branch -/
def isL : MV → Bool
  | .inr (.inr _) => true
  | _ => false
def lst (k : Nat) (v : MV) (ls : List (Nat × MV)) : List (Nat × MV) := (k, v) :: ls.filter (fun q => !(Nat.beq q.1 k) && !(Nat.beq (q.1 + 1) k && isL q.2))
def stI (i : Instr) (nx tgt : Nat) (ls : List (Nat × MV)) (st : List MV) (r : Sg × Nat × Nat) : Option MS :=
  match i with
  | .iconst n => some (nx, ls, vI (Int32.ofInt n) :: st, r)
  | .bipush n => some (nx, ls, vI (Int8.ofInt n).toInt32 :: st, r)
  | .sipush n => some (nx, ls, vI (Int16.ofInt n).toInt32 :: st, r)
  | .lconst n => some (nx, ls, vL (Int64.ofNat (n : Nat)) :: st, r)
  | .aconst_null => some (nx, ls, vR none :: st, r)
  | .iload k => match lkp k ls with
    | some (.inl x) => some (nx, ls, vI x :: st, r)
    | _ => none
  | .iload_n k => match lkp (k : Nat) ls with
    | some (.inl x) => some (nx, ls, vI x :: st, r)
    | _ => none
  | .aload k => match lkp k ls with
    | some (.inr (.inl x)) => some (nx, ls, vR x :: st, r)
    | _ => none
  | .aload_n k => match lkp (k : Nat) ls with
    | some (.inr (.inl x)) => some (nx, ls, vR x :: st, r)
    | _ => none
  | .istore k => match st with
    | .inl x :: t => some (nx, lst k (vI x) ls, t, r)
    | _ => none
  | .istore_n k => match st with
    | .inl x :: t => some (nx, lst k (vI x) ls, t, r)
    | _ => none
  | .astore k => match st with
    | .inr (.inl x) :: t => some (nx, lst k (vR x) ls, t, r)
    | _ => none
  | .astore_n k => match st with
    | .inr (.inl x) :: t => some (nx, lst k (vR x) ls, t, r)
    | _ => none
  | .iinc k n => match lkp k ls with
    | some (.inl x) => some (nx, lst k (vI (x + Int32.ofInt n)) ls, st, r)
    | _ => none
  | .iadd => match st with
    | .inl y :: .inl x :: t => some (nx, ls, vI (x + y) :: t, r)
    | _ => none
  | .isub => match st with
    | .inl y :: .inl x :: t => some (nx, ls, vI (x - y) :: t, r)
    | _ => none
  | .imul => match st with
    | .inl y :: .inl x :: t => some (nx, ls, vI (x * y) :: t, r)
    | _ => none
  | .iand => match st with
    | .inl y :: .inl x :: t => some (nx, ls, vI (x &&& y) :: t, r)
    | _ => none
  | .i2l => match st with
    | .inl x :: t => some (nx, ls, vL x.toInt64 :: t, r)
    | _ => none
  | .lcmp => match st with
    | .inr (.inr y) :: .inr (.inr x) :: t => some (nx, ls, vI (lg_cmp x y) :: t, r)
    | _ => none
  | .dup => match st with
    | .inl x :: t => some (nx, ls, vI x :: vI x :: t, r)
    | .inr (.inl x) :: t => some (nx, ls, vR x :: vR x :: t, r)
    | _ => none
  | .dup2 => match st with
    | .inl x :: .inr (.inl y) :: t => some (nx, ls, vI x :: vR y :: vI x :: vR y :: t, r)
    | _ => none
  | .dup_x1 => match st with
    | .inl x :: .inr (.inl y) :: t => some (nx, ls, vI x :: vR y :: vI x :: t, r)
    | .inr (.inl x) :: .inr (.inl y) :: t => some (nx, ls, vR x :: vR y :: vR x :: t, r)
    | _ => none
  | .ishr => match st with
    | .inl y :: .inl x :: t => some (nx, ls, vI (x >>> (y &&& 31)) :: t, r)
    | _ => none
  | .pop => match st with
    | .inl _ :: t => some (nx, ls, t, r)
    | .inr (.inl _) :: t => some (nx, ls, t, r)
    | _ => none
  | .goto _ => some (tgt, ls, st, r)
  | _ => none
def stD (mid : Nat) (S : MS) : Option MS := match lkp S.1 (insL mid) with
  | some (i, len, tgt) => stI i (S.1 + len) tgt S.2.1 S.2.2.1 S.2.2.2
  | none => none
def stN (mid : Nat) : Nat → MS → Option MS
  | 0, S => some S
  | n + 1, S => match stD mid S with
    | some S' => stN mid n S'
    | none => none
theorem toV_cat (v : MV) : ((toV v).category == 2) = isL v := by
  rcases v with x | r | x
  · rfl
  · cases r <;> rfl
  · rfl
theorem toV_cat1 {v : MV} (h : isL v = false) : (toV v).category = 1 := by
  rcases v with x | r | x
  · rfl
  · cases r <;> rfl
  · cases h
theorem lst_V (k : Nat) (v : MV) (ls : List (Nat × MV)) : (k, toV v) :: (lsV ls).filter (fun q => !(q.1 == k) && !(q.1 + 1 == k && q.2.category == 2)) = lsV (lst k v ls) := by
  unfold lst lsV
  rw [List.map_cons, List.filter_map]
  congr 1
  congr 1
  apply List.filter_congr
  intro q _
  show (!(q.1 == k) && !(q.1 + 1 == k && (toV q.2).category == 2)) = _
  have hb : ∀ a b : Nat, (a == b) = Nat.beq a b := fun a b => by rw [Bool.eq_iff_iff]; simp [Nat.beq_eq]
  rw [toV_cat, hb, hb]
theorem lkp_V {k : Nat} {v : MV} {ls : List (Nat × MV)} {arr : Array Slot} {n : Nat} (h : lv_has arr n (lsV ls)) (hk : lkp k ls = some v) : arr[k]? = some (.val (toV v)) :=
  h.2.2 (k, toV v) (List.mem_map.mpr ⟨(k, v), lkp_mem hk, rfl⟩)
theorem lkp_lt {k : Nat} {v : MV} {ls : List (Nat × MV)} {arr : Array Slot} {n : Nat} (h : lv_has arr n (lsV ls)) (hk : lkp k ls = some v) : k < n := by
  rw [← h.1]
  exact lv_lt (lkp_V h hk)
section DT
variable {l : Launch} {E : FE} {R : Room} {mid : Nat} {args : Array Value} {XX : State → Prop} {QF : State → List Frame → State → Prop}
theorem w_det {S S' : MS} (h : stD mid S = some S') (k : WG l E R mid args XX QF S') : WG l E R mid args XX QF S := by
  intro ok p e s m below meth c H locs arr hX F hR hS hl
  obtain ⟨hx, hb, hml, hret, hown, hts, hlocks, hnm, hK, hz, hZ, htab⟩ := id F
  obtain ⟨pc, ls, st, r⟩ := S
  unfold stD at h
  dsimp only at h
  cases hq : lkp pc (insL mid) with
  | none => rw [hq] at h; cases h
  | some q =>
    obtain ⟨i, len, tgt⟩ := q
    rw [hq] at h
    dsimp only at h
    obtain ⟨hd, htg, hst⟩ := ok.2 _ (lkp_mem hq)
    dsimp only at hd
    have kk : ∀ arr', lv_has arr' (mL mid) (lsV S'.2.1) → HR E S'.2.2.2.1 H → W p l e R s m args below meth c H locs S'.2.2.2.2.1 S'.2.2.2.2.2 (QF s below) (F0 m S'.1 arr' (S'.2.2.1.map toV)) := fun arr' hl' hR' => k ok p e s m below meth c H locs arr' hX F hR' hS hl'
    have hlen : isSw i = false → len = ilen i := fun hs => by
      simp only [tgB, hs, Bool.false_or, Bool.and_eq_true, beq_iff_eq] at htg
      exact htg.1
    have hoff : ∀ o, ioff i = some o → (pc : Int) + o = (tgt : Int) := fun o ho => by
      simp only [tgB, ho, Bool.and_eq_true, beq_iff_eq] at htg
      exact htg.2
    have hsto : ∀ j, ist i = some j → j < mL mid := fun j hj => by
      simp only [stB, hj, decide_eq_true_eq] at hst
      exact hst
    cases i with
    | iconst n => cases h; cases hlen rfl; exact lv_iconst hx hb hd rfl (kk arr hl hR)
    | bipush n => cases h; cases hlen rfl; exact lv_bipush hx hb hd rfl (kk arr hl hR)
    | sipush n => cases h; cases hlen rfl; exact lv_sipush hx hb hd rfl (kk arr hl hR)
    | lconst n => cases h; cases hlen rfl; exact lv_lconst hx hb hd rfl (kk arr hl hR)
    | aconst_null => cases h; cases hlen rfl; exact lv_null hx hb hd (kk arr hl hR)
    | iload j =>
      cases hlen rfl
      simp only [stI] at h
      split at h
      · rename_i x hx9; cases h; exact lv_iload hx hb hd (lkp_V hl hx9) (kk arr hl hR)
      · cases h
    | iload_n j =>
      cases hlen rfl
      simp only [stI] at h
      split at h
      · rename_i x hx9; cases h; exact lv_iload_n hx hb hd rfl (lkp_V hl hx9) (kk arr hl hR)
      · cases h
    | aload j =>
      cases hlen rfl
      simp only [stI] at h
      split at h
      · rename_i x hx9; cases h
        cases x with
        | none => exact lv_aloadN hx hb hd (lkp_V hl hx9) (kk arr hl hR)
        | some x => exact lv_aload hx hb hd (lkp_V hl hx9) (kk arr hl hR)
      · cases h
    | aload_n j =>
      cases hlen rfl
      simp only [stI] at h
      split at h
      · rename_i x hx9; cases h
        cases x with
        | none => exact lv_aload_nN hx hb hd rfl (lkp_V hl hx9) (kk arr hl hR)
        | some x => exact lv_aload_n hx hb hd rfl (lkp_V hl hx9) (kk arr hl hR)
      · cases h
    | istore j =>
      cases hlen rfl
      simp only [stI] at h
      split at h
      · cases h; exact lv_istore hx hb hd hl (hsto _ rfl) (lst_V _ (vI _) _) (fun arr' hl' => kk arr' hl' hR)
      · cases h
    | istore_n j =>
      cases hlen rfl
      simp only [stI] at h
      split at h
      · cases h; exact lv_istore_n hx hb hd rfl hl (hsto _ rfl) (lst_V _ (vI _) _) (fun arr' hl' => kk arr' hl' hR)
      · cases h
    | astore j =>
      cases hlen rfl
      simp only [stI] at h
      split at h
      · rename_i x t; cases h
        cases x with
        | none => exact lv_astoreN hx hb hd hl (hsto _ rfl) (lst_V _ (vR none) _) (fun arr' hl' => kk arr' hl' hR)
        | some x => exact lv_astore hx hb hd hl (hsto _ rfl) (lst_V _ (vR (some x)) _) (fun arr' hl' => kk arr' hl' hR)
      · cases h
    | astore_n j =>
      cases hlen rfl
      simp only [stI] at h
      split at h
      · rename_i x t; cases h
        cases x with
        | none => exact lv_astore_nN hx hb hd rfl hl (hsto _ rfl) (lst_V _ (vR none) _) (fun arr' hl' => kk arr' hl' hR)
        | some x => exact lv_astore_n hx hb hd rfl hl (hsto _ rfl) (lst_V _ (vR (some x)) _) (fun arr' hl' => kk arr' hl' hR)
      · cases h
    | iinc j n =>
      cases hlen rfl
      simp only [stI] at h
      split at h
      · rename_i x hx9; cases h
        obtain ⟨n9, hn9⟩ := List.getElem?_of_mem (show (j, toV (vI x)) ∈ lsV ls from List.mem_map.mpr ⟨_, lkp_mem hx9, rfl⟩)
        exact lv_iinc hx hb hd hl hn9 rfl (lkp_lt hl hx9) (lst_V _ (vI _) _) (fun arr' hl' => kk arr' hl' hR)
      · cases h
    | iadd =>
      cases hlen rfl
      simp only [stI] at h
      split at h
      · cases h; exact lv_iadd hx hb hd (kk arr hl hR)
      · cases h
    | isub =>
      cases hlen rfl
      simp only [stI] at h
      split at h
      · cases h; exact lv_isub hx hb hd (kk arr hl hR)
      · cases h
    | imul =>
      cases hlen rfl
      simp only [stI] at h
      split at h
      · cases h; exact lv_imul hx hb hd (kk arr hl hR)
      · cases h
    | iand =>
      cases hlen rfl
      simp only [stI] at h
      split at h
      · cases h; exact lv_iand hx hb hd (kk arr hl hR)
      · cases h
    | i2l =>
      cases hlen rfl
      simp only [stI] at h
      split at h
      · cases h; exact lv_i2l hx hb hd rfl (kk arr hl hR)
      · cases h
    | lcmp =>
      cases hlen rfl
      simp only [stI] at h
      split at h
      · cases h; exact W.lcmp hx hb hd (kk arr hl hR)
      · cases h
    | dup =>
      cases hlen rfl
      simp only [stI] at h
      split at h
      · cases h; exact lv_dup hx hb hd rfl (kk arr hl hR)
      · cases h; exact lv_dup hx hb hd (toV_cat1 rfl) (kk arr hl hR)
      · cases h
    | dup2 =>
      cases hlen rfl
      simp only [stI] at h
      split at h
      · cases h; exact lv_dup2_11 hx hb hd rfl (toV_cat1 rfl) (kk arr hl hR)
      · cases h
    | dup_x1 =>
      cases hlen rfl
      simp only [stI] at h
      split at h
      · cases h; exact lv_dup_x1 hx hb hd rfl (toV_cat1 rfl) (kk arr hl hR)
      · cases h; exact lv_dup_x1 hx hb hd (toV_cat1 rfl) (toV_cat1 rfl) (kk arr hl hR)
      · cases h
    | ishr =>
      cases hlen rfl
      simp only [stI] at h
      split at h
      · cases h; exact lv_ishr hx hb hd (kk arr hl hR)
      · cases h
    | pop =>
      cases hlen rfl
      simp only [stI] at h
      split at h
      · cases h; exact lv_pop hx hb hd rfl (kk arr hl hR)
      · cases h; exact lv_pop hx hb hd (toV_cat1 rfl) (kk arr hl hR)
      · cases h
    | goto o => cases h; cases hlen rfl; exact lv_goto hx hb hd (hoff o rfl) (kk arr hl hR)
    | _ => cases h
/-- n such steps at once -/
theorem w_run (n : Nat) : ∀ {S S' : MS}, stN mid n S = some S' → WG l E R mid args XX QF S' → WG l E R mid args XX QF S := by
  induction n with
  | zero => intro S S' h k; cases h; exact k
  | succ n ih =>
    intro S S' h k
    unfold stN at h
    cases hd : stD mid S with
    | none => rw [hd] at h; cases h
    | some S1 => rw [hd] at h; exact w_det hd (ih h k)
end DT
