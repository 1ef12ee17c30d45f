section EV
variable {L : eg_Ls} {st : List Value} {G : eg_G}
theorem ea_v0 {rec : eg_Rec} {scr : eg_Sc} {d k pc i ck sk mi kd : Nat} {x : Option String} (hlk : (eg_mT.getD (eg_mo k) []).lookup i = some (mi, kd, x)) : eg_iv rec scr d k pc 0 i L st G ck sk = (if kd = 0 ∧ 310 ≤ mi ∧ mi ≤ 314 then (match eg_mt mi st with
        | some (v, r) => if eg_cat r ≤ 8 ∧ L.length = eg_mL k then rec scr d k (pc + 3) L (v :: r) G ck sk else none
        | none => none)
      else if (kd = 0 ∨ kd = 3) ∧ eg_ma mi ≤ st.length then eg_cl1 rec scr d k pc mi (st.take (eg_ma mi)).reverse (st.drop (eg_ma mi)) L G ck sk else none) := by
  unfold eg_iv
  rw [hlk]
  first | rfl | done
theorem ea_v1 {rec : eg_Rec} {scr : eg_Sc} {d k pc i ck sk mi kd : Nat} {x : Option String} (hlk : (eg_mT.getD (eg_mo k) []).lookup i = some (mi, kd, x)) : eg_iv rec scr d k pc 1 i L st G ck sk = (match st.drop (eg_ma mi) with
      | .ref b :: r => if (kd = 1 ∨ kd = 4 ∨ kd = 7) ∧ b < G.2 ∧ eg_is (eg_at G b) (eg_oc kd mi) = true then eg_cl1 rec scr d k pc mi (.ref b :: (st.take (eg_ma mi)).reverse) r L G ck sk else none
      | _ => none) := by
  unfold eg_iv
  rw [hlk]
  first | rfl | done
theorem ea_v2 {rec : eg_Rec} {scr : eg_Sc} {d k pc i ck sk mi kd : Nat} {x : Option String} (hlk : (eg_mT.getD (eg_mo k) []).lookup i = some (mi, kd, x)) {t : Nat} : eg_iv rec scr d k pc (t + 2) i L st G ck sk = (if kd = 6 then (match st with
        | .ref _ :: r => if eg_cat r ≤ 8 ∧ L.length = eg_mL k then rec scr d k (pc + 3) L r G ck sk else none
        | _ => none)
      else (match st.drop (eg_ma mi) with
        | .ref b :: r => if kd = 2 ∨ kd = 5 then eg_cl1 rec scr d k pc mi (.ref b :: (st.take (eg_ma mi)).reverse) r L G ck sk else none
        | _ => none)) := by
  unfold eg_iv
  rw [hlk]
  first | rfl | done
theorem ea_w0 {rec : ea_Rec} {scr : Option Nat} {I : ea_I} {d k pc i ck sk mi kd : Nat} {x : Option String} (hlk : (eg_mT.getD (eg_mo k) []).lookup i = some (mi, kd, x)) : ea_iv rec scr I d k pc 0 i L st G ck sk = (if kd = 0 ∧ 310 ≤ mi ∧ mi ≤ 314 then (match eg_mt mi st with
        | some (v, r) => if eg_cat r ≤ 8 ∧ L.length = eg_mL k then rec scr I d k (pc + 3) L (v :: r) G ck sk else none
        | none => none)
      else if (kd = 0 ∨ kd = 3) ∧ eg_ma mi ≤ st.length then ea_cl1 rec scr I d k pc mi (st.take (eg_ma mi)).reverse (st.drop (eg_ma mi)) L G ck sk else none) := by
  unfold ea_iv
  rw [hlk]
  first | rfl | done
theorem ea_w1 {rec : ea_Rec} {scr : Option Nat} {I : ea_I} {d k pc i ck sk mi kd : Nat} {x : Option String} (hlk : (eg_mT.getD (eg_mo k) []).lookup i = some (mi, kd, x)) : ea_iv rec scr I d k pc 1 i L st G ck sk = (match st.drop (eg_ma mi) with
      | .ref b :: r => if (kd = 1 ∨ kd = 4 ∨ kd = 7) ∧ b < G.2 ∧ eg_is (eg_at G b) (eg_oc kd mi) = true then ea_cl1 rec scr I d k pc mi (.ref b :: (st.take (eg_ma mi)).reverse) r L G ck sk else none
      | _ => none) := by
  unfold ea_iv
  rw [hlk]
  first | rfl | done
theorem ea_w2 {rec : ea_Rec} {scr : Option Nat} {I : ea_I} {d k pc i ck sk mi kd : Nat} {x : Option String} (hlk : (eg_mT.getD (eg_mo k) []).lookup i = some (mi, kd, x)) {t : Nat} : ea_iv rec scr I d k pc (t + 2) i L st G ck sk = (if kd = 6 then (match st with
        | .ref _ :: r => if eg_cat r ≤ 8 ∧ L.length = eg_mL k then rec scr I d k (pc + 3) L r G ck sk else none
        | _ => none)
      else (match st.drop (eg_ma mi) with
        | .ref b :: r => if kd = 2 ∨ kd = 5 then ea_cl1 rec scr I d k pc mi (.ref b :: (st.take (eg_ma mi)).reverse) r L G ck sk else none
        | _ => none)) := by
  unfold ea_iv
  rw [hlk]
  first | rfl | done
end EV
