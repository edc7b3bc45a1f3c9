theorem mJ_put_21_0 {M : mM} {pc idx : Nat} {ls st : List Value} {h' : List mC} {r : Option Value} {C : aF} {Hs : tH} {Sw : tS} {T1 : tT} {Od : tO} {T2 : tT} {P2 : tP} {a0 : Int32} {a1 : Int32} {a2 : Int32} {a3 : Int32} {a4 : Int32} {a5 : Int32} {x : Int32} (hd : decode M.2.1 pc = .ok (.putfield idx, 3)) (hf : m_fldp M.1.cls idx 2 0 .int) (kk : mJ M (pc + 3) ls st (cH C Hs Sw T1 (x, a1, a2, a3, a4, a5) Od T2 P2) r h') : mJ M pc ls (.int x :: .ref 21 :: st) (cH C Hs Sw T1 (a0, a1, a2, a3, a4, a5) Od T2 P2) r h' :=
  mJ_put hd hf (h := (cH C Hs Sw T1 (a0, a1, a2, a3, a4, a5) Od T2 P2)) rfl (Nat.le_of_ble_eq_true rfl) rfl rfl rfl kk
theorem mJ_get_21_0 {M : mM} {pc idx : Nat} {ls st : List Value} {h' : List mC} {r : Option Value} {C : aF} {Hs : tH} {Sw : tS} {T1 : tT} {Od : tO} {T2 : tT} {P2 : tP} {a0 : Int32} {a1 : Int32} {a2 : Int32} {a3 : Int32} {a4 : Int32} {a5 : Int32} (hd : decode M.2.1 pc = .ok (.getfield idx, 3)) (hf : m_fld M.1.cls idx 2 0) (kk : mJ M (pc + 3) ls (.int a0 :: st) (cH C Hs Sw T1 (a0, a1, a2, a3, a4, a5) Od T2 P2) r h') : mJ M pc ls (.ref 21 :: st) (cH C Hs Sw T1 (a0, a1, a2, a3, a4, a5) Od T2 P2) r h' :=
  mJ_get hd hf (h := (cH C Hs Sw T1 (a0, a1, a2, a3, a4, a5) Od T2 P2)) rfl rfl kk
theorem mJ_put_21_1 {M : mM} {pc idx : Nat} {ls st : List Value} {h' : List mC} {r : Option Value} {C : aF} {Hs : tH} {Sw : tS} {T1 : tT} {Od : tO} {T2 : tT} {P2 : tP} {a0 : Int32} {a1 : Int32} {a2 : Int32} {a3 : Int32} {a4 : Int32} {a5 : Int32} {x : Int32} (hd : decode M.2.1 pc = .ok (.putfield idx, 3)) (hf : m_fldp M.1.cls idx 2 1 .int) (kk : mJ M (pc + 3) ls st (cH C Hs Sw T1 (a0, x, a2, a3, a4, a5) Od T2 P2) r h') : mJ M pc ls (.int x :: .ref 21 :: st) (cH C Hs Sw T1 (a0, a1, a2, a3, a4, a5) Od T2 P2) r h' :=
  mJ_put hd hf (h := (cH C Hs Sw T1 (a0, a1, a2, a3, a4, a5) Od T2 P2)) rfl (Nat.le_of_ble_eq_true rfl) rfl rfl rfl kk
theorem mJ_get_21_1 {M : mM} {pc idx : Nat} {ls st : List Value} {h' : List mC} {r : Option Value} {C : aF} {Hs : tH} {Sw : tS} {T1 : tT} {Od : tO} {T2 : tT} {P2 : tP} {a0 : Int32} {a1 : Int32} {a2 : Int32} {a3 : Int32} {a4 : Int32} {a5 : Int32} (hd : decode M.2.1 pc = .ok (.getfield idx, 3)) (hf : m_fld M.1.cls idx 2 1) (kk : mJ M (pc + 3) ls (.int a1 :: st) (cH C Hs Sw T1 (a0, a1, a2, a3, a4, a5) Od T2 P2) r h') : mJ M pc ls (.ref 21 :: st) (cH C Hs Sw T1 (a0, a1, a2, a3, a4, a5) Od T2 P2) r h' :=
  mJ_get hd hf (h := (cH C Hs Sw T1 (a0, a1, a2, a3, a4, a5) Od T2 P2)) rfl rfl kk
theorem mJ_put_21_2 {M : mM} {pc idx : Nat} {ls st : List Value} {h' : List mC} {r : Option Value} {C : aF} {Hs : tH} {Sw : tS} {T1 : tT} {Od : tO} {T2 : tT} {P2 : tP} {a0 : Int32} {a1 : Int32} {a2 : Int32} {a3 : Int32} {a4 : Int32} {a5 : Int32} {x : Int32} (hd : decode M.2.1 pc = .ok (.putfield idx, 3)) (hf : m_fldp M.1.cls idx 2 2 .int) (kk : mJ M (pc + 3) ls st (cH C Hs Sw T1 (a0, a1, x, a3, a4, a5) Od T2 P2) r h') : mJ M pc ls (.int x :: .ref 21 :: st) (cH C Hs Sw T1 (a0, a1, a2, a3, a4, a5) Od T2 P2) r h' :=
  mJ_put hd hf (h := (cH C Hs Sw T1 (a0, a1, a2, a3, a4, a5) Od T2 P2)) rfl (Nat.le_of_ble_eq_true rfl) rfl rfl rfl kk
theorem mJ_get_21_2 {M : mM} {pc idx : Nat} {ls st : List Value} {h' : List mC} {r : Option Value} {C : aF} {Hs : tH} {Sw : tS} {T1 : tT} {Od : tO} {T2 : tT} {P2 : tP} {a0 : Int32} {a1 : Int32} {a2 : Int32} {a3 : Int32} {a4 : Int32} {a5 : Int32} (hd : decode M.2.1 pc = .ok (.getfield idx, 3)) (hf : m_fld M.1.cls idx 2 2) (kk : mJ M (pc + 3) ls (.int a2 :: st) (cH C Hs Sw T1 (a0, a1, a2, a3, a4, a5) Od T2 P2) r h') : mJ M pc ls (.ref 21 :: st) (cH C Hs Sw T1 (a0, a1, a2, a3, a4, a5) Od T2 P2) r h' :=
  mJ_get hd hf (h := (cH C Hs Sw T1 (a0, a1, a2, a3, a4, a5) Od T2 P2)) rfl rfl kk
theorem mJ_put_21_3 {M : mM} {pc idx : Nat} {ls st : List Value} {h' : List mC} {r : Option Value} {C : aF} {Hs : tH} {Sw : tS} {T1 : tT} {Od : tO} {T2 : tT} {P2 : tP} {a0 : Int32} {a1 : Int32} {a2 : Int32} {a3 : Int32} {a4 : Int32} {a5 : Int32} {x : Int32} (hd : decode M.2.1 pc = .ok (.putfield idx, 3)) (hf : m_fldp M.1.cls idx 2 3 .int) (kk : mJ M (pc + 3) ls st (cH C Hs Sw T1 (a0, a1, a2, x, a4, a5) Od T2 P2) r h') : mJ M pc ls (.int x :: .ref 21 :: st) (cH C Hs Sw T1 (a0, a1, a2, a3, a4, a5) Od T2 P2) r h' :=
  mJ_put hd hf (h := (cH C Hs Sw T1 (a0, a1, a2, a3, a4, a5) Od T2 P2)) rfl (Nat.le_of_ble_eq_true rfl) rfl rfl rfl kk
theorem mJ_get_21_3 {M : mM} {pc idx : Nat} {ls st : List Value} {h' : List mC} {r : Option Value} {C : aF} {Hs : tH} {Sw : tS} {T1 : tT} {Od : tO} {T2 : tT} {P2 : tP} {a0 : Int32} {a1 : Int32} {a2 : Int32} {a3 : Int32} {a4 : Int32} {a5 : Int32} (hd : decode M.2.1 pc = .ok (.getfield idx, 3)) (hf : m_fld M.1.cls idx 2 3) (kk : mJ M (pc + 3) ls (.int a3 :: st) (cH C Hs Sw T1 (a0, a1, a2, a3, a4, a5) Od T2 P2) r h') : mJ M pc ls (.ref 21 :: st) (cH C Hs Sw T1 (a0, a1, a2, a3, a4, a5) Od T2 P2) r h' :=
  mJ_get hd hf (h := (cH C Hs Sw T1 (a0, a1, a2, a3, a4, a5) Od T2 P2)) rfl rfl kk
theorem mJ_put_21_4 {M : mM} {pc idx : Nat} {ls st : List Value} {h' : List mC} {r : Option Value} {C : aF} {Hs : tH} {Sw : tS} {T1 : tT} {Od : tO} {T2 : tT} {P2 : tP} {a0 : Int32} {a1 : Int32} {a2 : Int32} {a3 : Int32} {a4 : Int32} {a5 : Int32} {x : Int32} (hd : decode M.2.1 pc = .ok (.putfield idx, 3)) (hf : m_fldp M.1.cls idx 2 4 .boolean) (hz : x = 0 ∨ x = 1) (kk : mJ M (pc + 3) ls st (cH C Hs Sw T1 (a0, a1, a2, a3, x, a5) Od T2 P2) r h') : mJ M pc ls (.int x :: .ref 21 :: st) (cH C Hs Sw T1 (a0, a1, a2, a3, a4, a5) Od T2 P2) r h' :=
  mJ_put hd hf (h := (cH C Hs Sw T1 (a0, a1, a2, a3, a4, a5) Od T2 P2)) rfl (Nat.le_of_ble_eq_true rfl) (m_nz hz).1 (m_nz hz).2 rfl kk
theorem mJ_get_21_4 {M : mM} {pc idx : Nat} {ls st : List Value} {h' : List mC} {r : Option Value} {C : aF} {Hs : tH} {Sw : tS} {T1 : tT} {Od : tO} {T2 : tT} {P2 : tP} {a0 : Int32} {a1 : Int32} {a2 : Int32} {a3 : Int32} {a4 : Int32} {a5 : Int32} (hd : decode M.2.1 pc = .ok (.getfield idx, 3)) (hf : m_fld M.1.cls idx 2 4) (kk : mJ M (pc + 3) ls (.int a4 :: st) (cH C Hs Sw T1 (a0, a1, a2, a3, a4, a5) Od T2 P2) r h') : mJ M pc ls (.ref 21 :: st) (cH C Hs Sw T1 (a0, a1, a2, a3, a4, a5) Od T2 P2) r h' :=
  mJ_get hd hf (h := (cH C Hs Sw T1 (a0, a1, a2, a3, a4, a5) Od T2 P2)) rfl rfl kk
theorem mJ_put_21_5 {M : mM} {pc idx : Nat} {ls st : List Value} {h' : List mC} {r : Option Value} {C : aF} {Hs : tH} {Sw : tS} {T1 : tT} {Od : tO} {T2 : tT} {P2 : tP} {a0 : Int32} {a1 : Int32} {a2 : Int32} {a3 : Int32} {a4 : Int32} {a5 : Int32} {x : Int32} (hd : decode M.2.1 pc = .ok (.putfield idx, 3)) (hf : m_fldp M.1.cls idx 2 5 .boolean) (hz : x = 0 ∨ x = 1) (kk : mJ M (pc + 3) ls st (cH C Hs Sw T1 (a0, a1, a2, a3, a4, x) Od T2 P2) r h') : mJ M pc ls (.int x :: .ref 21 :: st) (cH C Hs Sw T1 (a0, a1, a2, a3, a4, a5) Od T2 P2) r h' :=
  mJ_put hd hf (h := (cH C Hs Sw T1 (a0, a1, a2, a3, a4, a5) Od T2 P2)) rfl (Nat.le_of_ble_eq_true rfl) (m_nz hz).1 (m_nz hz).2 rfl kk
theorem mJ_get_21_5 {M : mM} {pc idx : Nat} {ls st : List Value} {h' : List mC} {r : Option Value} {C : aF} {Hs : tH} {Sw : tS} {T1 : tT} {Od : tO} {T2 : tT} {P2 : tP} {a0 : Int32} {a1 : Int32} {a2 : Int32} {a3 : Int32} {a4 : Int32} {a5 : Int32} (hd : decode M.2.1 pc = .ok (.getfield idx, 3)) (hf : m_fld M.1.cls idx 2 5) (kk : mJ M (pc + 3) ls (.int a5 :: st) (cH C Hs Sw T1 (a0, a1, a2, a3, a4, a5) Od T2 P2) r h') : mJ M pc ls (.ref 21 :: st) (cH C Hs Sw T1 (a0, a1, a2, a3, a4, a5) Od T2 P2) r h' :=
  mJ_get hd hf (h := (cH C Hs Sw T1 (a0, a1, a2, a3, a4, a5) Od T2 P2)) rfl rfl kk
theorem mJ_put_28_0 {M : mM} {pc idx : Nat} {ls st : List Value} {h' : List mC} {r : Option Value} {C : aF} {Hs : tH} {Sw : tS} {T1 : tT} {P1 : tP} {Od : tO} {T2 : tT} {a0 : Int32} {a1 : Int32} {a2 : Int32} {a3 : Int32} {a4 : Int32} {a5 : Int32} {x : Int32} (hd : decode M.2.1 pc = .ok (.putfield idx, 3)) (hf : m_fldp M.1.cls idx 2 0 .int) (kk : mJ M (pc + 3) ls st (cH C Hs Sw T1 P1 Od T2 (x, a1, a2, a3, a4, a5)) r h') : mJ M pc ls (.int x :: .ref 28 :: st) (cH C Hs Sw T1 P1 Od T2 (a0, a1, a2, a3, a4, a5)) r h' :=
  mJ_put hd hf (h := (cH C Hs Sw T1 P1 Od T2 (a0, a1, a2, a3, a4, a5))) rfl (Nat.le_of_ble_eq_true rfl) rfl rfl rfl kk
theorem mJ_get_28_0 {M : mM} {pc idx : Nat} {ls st : List Value} {h' : List mC} {r : Option Value} {C : aF} {Hs : tH} {Sw : tS} {T1 : tT} {P1 : tP} {Od : tO} {T2 : tT} {a0 : Int32} {a1 : Int32} {a2 : Int32} {a3 : Int32} {a4 : Int32} {a5 : Int32} (hd : decode M.2.1 pc = .ok (.getfield idx, 3)) (hf : m_fld M.1.cls idx 2 0) (kk : mJ M (pc + 3) ls (.int a0 :: st) (cH C Hs Sw T1 P1 Od T2 (a0, a1, a2, a3, a4, a5)) r h') : mJ M pc ls (.ref 28 :: st) (cH C Hs Sw T1 P1 Od T2 (a0, a1, a2, a3, a4, a5)) r h' :=
  mJ_get hd hf (h := (cH C Hs Sw T1 P1 Od T2 (a0, a1, a2, a3, a4, a5))) rfl rfl kk
theorem mJ_put_28_1 {M : mM} {pc idx : Nat} {ls st : List Value} {h' : List mC} {r : Option Value} {C : aF} {Hs : tH} {Sw : tS} {T1 : tT} {P1 : tP} {Od : tO} {T2 : tT} {a0 : Int32} {a1 : Int32} {a2 : Int32} {a3 : Int32} {a4 : Int32} {a5 : Int32} {x : Int32} (hd : decode M.2.1 pc = .ok (.putfield idx, 3)) (hf : m_fldp M.1.cls idx 2 1 .int) (kk : mJ M (pc + 3) ls st (cH C Hs Sw T1 P1 Od T2 (a0, x, a2, a3, a4, a5)) r h') : mJ M pc ls (.int x :: .ref 28 :: st) (cH C Hs Sw T1 P1 Od T2 (a0, a1, a2, a3, a4, a5)) r h' :=
  mJ_put hd hf (h := (cH C Hs Sw T1 P1 Od T2 (a0, a1, a2, a3, a4, a5))) rfl (Nat.le_of_ble_eq_true rfl) rfl rfl rfl kk
theorem mJ_get_28_1 {M : mM} {pc idx : Nat} {ls st : List Value} {h' : List mC} {r : Option Value} {C : aF} {Hs : tH} {Sw : tS} {T1 : tT} {P1 : tP} {Od : tO} {T2 : tT} {a0 : Int32} {a1 : Int32} {a2 : Int32} {a3 : Int32} {a4 : Int32} {a5 : Int32} (hd : decode M.2.1 pc = .ok (.getfield idx, 3)) (hf : m_fld M.1.cls idx 2 1) (kk : mJ M (pc + 3) ls (.int a1 :: st) (cH C Hs Sw T1 P1 Od T2 (a0, a1, a2, a3, a4, a5)) r h') : mJ M pc ls (.ref 28 :: st) (cH C Hs Sw T1 P1 Od T2 (a0, a1, a2, a3, a4, a5)) r h' :=
  mJ_get hd hf (h := (cH C Hs Sw T1 P1 Od T2 (a0, a1, a2, a3, a4, a5))) rfl rfl kk
theorem mJ_put_28_2 {M : mM} {pc idx : Nat} {ls st : List Value} {h' : List mC} {r : Option Value} {C : aF} {Hs : tH} {Sw : tS} {T1 : tT} {P1 : tP} {Od : tO} {T2 : tT} {a0 : Int32} {a1 : Int32} {a2 : Int32} {a3 : Int32} {a4 : Int32} {a5 : Int32} {x : Int32} (hd : decode M.2.1 pc = .ok (.putfield idx, 3)) (hf : m_fldp M.1.cls idx 2 2 .int) (kk : mJ M (pc + 3) ls st (cH C Hs Sw T1 P1 Od T2 (a0, a1, x, a3, a4, a5)) r h') : mJ M pc ls (.int x :: .ref 28 :: st) (cH C Hs Sw T1 P1 Od T2 (a0, a1, a2, a3, a4, a5)) r h' :=
  mJ_put hd hf (h := (cH C Hs Sw T1 P1 Od T2 (a0, a1, a2, a3, a4, a5))) rfl (Nat.le_of_ble_eq_true rfl) rfl rfl rfl kk
theorem mJ_get_28_2 {M : mM} {pc idx : Nat} {ls st : List Value} {h' : List mC} {r : Option Value} {C : aF} {Hs : tH} {Sw : tS} {T1 : tT} {P1 : tP} {Od : tO} {T2 : tT} {a0 : Int32} {a1 : Int32} {a2 : Int32} {a3 : Int32} {a4 : Int32} {a5 : Int32} (hd : decode M.2.1 pc = .ok (.getfield idx, 3)) (hf : m_fld M.1.cls idx 2 2) (kk : mJ M (pc + 3) ls (.int a2 :: st) (cH C Hs Sw T1 P1 Od T2 (a0, a1, a2, a3, a4, a5)) r h') : mJ M pc ls (.ref 28 :: st) (cH C Hs Sw T1 P1 Od T2 (a0, a1, a2, a3, a4, a5)) r h' :=
  mJ_get hd hf (h := (cH C Hs Sw T1 P1 Od T2 (a0, a1, a2, a3, a4, a5))) rfl rfl kk
theorem mJ_put_28_3 {M : mM} {pc idx : Nat} {ls st : List Value} {h' : List mC} {r : Option Value} {C : aF} {Hs : tH} {Sw : tS} {T1 : tT} {P1 : tP} {Od : tO} {T2 : tT} {a0 : Int32} {a1 : Int32} {a2 : Int32} {a3 : Int32} {a4 : Int32} {a5 : Int32} {x : Int32} (hd : decode M.2.1 pc = .ok (.putfield idx, 3)) (hf : m_fldp M.1.cls idx 2 3 .int) (kk : mJ M (pc + 3) ls st (cH C Hs Sw T1 P1 Od T2 (a0, a1, a2, x, a4, a5)) r h') : mJ M pc ls (.int x :: .ref 28 :: st) (cH C Hs Sw T1 P1 Od T2 (a0, a1, a2, a3, a4, a5)) r h' :=
  mJ_put hd hf (h := (cH C Hs Sw T1 P1 Od T2 (a0, a1, a2, a3, a4, a5))) rfl (Nat.le_of_ble_eq_true rfl) rfl rfl rfl kk
theorem mJ_get_28_3 {M : mM} {pc idx : Nat} {ls st : List Value} {h' : List mC} {r : Option Value} {C : aF} {Hs : tH} {Sw : tS} {T1 : tT} {P1 : tP} {Od : tO} {T2 : tT} {a0 : Int32} {a1 : Int32} {a2 : Int32} {a3 : Int32} {a4 : Int32} {a5 : Int32} (hd : decode M.2.1 pc = .ok (.getfield idx, 3)) (hf : m_fld M.1.cls idx 2 3) (kk : mJ M (pc + 3) ls (.int a3 :: st) (cH C Hs Sw T1 P1 Od T2 (a0, a1, a2, a3, a4, a5)) r h') : mJ M pc ls (.ref 28 :: st) (cH C Hs Sw T1 P1 Od T2 (a0, a1, a2, a3, a4, a5)) r h' :=
  mJ_get hd hf (h := (cH C Hs Sw T1 P1 Od T2 (a0, a1, a2, a3, a4, a5))) rfl rfl kk
theorem mJ_put_28_4 {M : mM} {pc idx : Nat} {ls st : List Value} {h' : List mC} {r : Option Value} {C : aF} {Hs : tH} {Sw : tS} {T1 : tT} {P1 : tP} {Od : tO} {T2 : tT} {a0 : Int32} {a1 : Int32} {a2 : Int32} {a3 : Int32} {a4 : Int32} {a5 : Int32} {x : Int32} (hd : decode M.2.1 pc = .ok (.putfield idx, 3)) (hf : m_fldp M.1.cls idx 2 4 .boolean) (hz : x = 0 ∨ x = 1) (kk : mJ M (pc + 3) ls st (cH C Hs Sw T1 P1 Od T2 (a0, a1, a2, a3, x, a5)) r h') : mJ M pc ls (.int x :: .ref 28 :: st) (cH C Hs Sw T1 P1 Od T2 (a0, a1, a2, a3, a4, a5)) r h' :=
  mJ_put hd hf (h := (cH C Hs Sw T1 P1 Od T2 (a0, a1, a2, a3, a4, a5))) rfl (Nat.le_of_ble_eq_true rfl) (m_nz hz).1 (m_nz hz).2 rfl kk
theorem mJ_get_28_4 {M : mM} {pc idx : Nat} {ls st : List Value} {h' : List mC} {r : Option Value} {C : aF} {Hs : tH} {Sw : tS} {T1 : tT} {P1 : tP} {Od : tO} {T2 : tT} {a0 : Int32} {a1 : Int32} {a2 : Int32} {a3 : Int32} {a4 : Int32} {a5 : Int32} (hd : decode M.2.1 pc = .ok (.getfield idx, 3)) (hf : m_fld M.1.cls idx 2 4) (kk : mJ M (pc + 3) ls (.int a4 :: st) (cH C Hs Sw T1 P1 Od T2 (a0, a1, a2, a3, a4, a5)) r h') : mJ M pc ls (.ref 28 :: st) (cH C Hs Sw T1 P1 Od T2 (a0, a1, a2, a3, a4, a5)) r h' :=
  mJ_get hd hf (h := (cH C Hs Sw T1 P1 Od T2 (a0, a1, a2, a3, a4, a5))) rfl rfl kk
theorem mJ_put_28_5 {M : mM} {pc idx : Nat} {ls st : List Value} {h' : List mC} {r : Option Value} {C : aF} {Hs : tH} {Sw : tS} {T1 : tT} {P1 : tP} {Od : tO} {T2 : tT} {a0 : Int32} {a1 : Int32} {a2 : Int32} {a3 : Int32} {a4 : Int32} {a5 : Int32} {x : Int32} (hd : decode M.2.1 pc = .ok (.putfield idx, 3)) (hf : m_fldp M.1.cls idx 2 5 .boolean) (hz : x = 0 ∨ x = 1) (kk : mJ M (pc + 3) ls st (cH C Hs Sw T1 P1 Od T2 (a0, a1, a2, a3, a4, x)) r h') : mJ M pc ls (.int x :: .ref 28 :: st) (cH C Hs Sw T1 P1 Od T2 (a0, a1, a2, a3, a4, a5)) r h' :=
  mJ_put hd hf (h := (cH C Hs Sw T1 P1 Od T2 (a0, a1, a2, a3, a4, a5))) rfl (Nat.le_of_ble_eq_true rfl) (m_nz hz).1 (m_nz hz).2 rfl kk
theorem mJ_get_28_5 {M : mM} {pc idx : Nat} {ls st : List Value} {h' : List mC} {r : Option Value} {C : aF} {Hs : tH} {Sw : tS} {T1 : tT} {P1 : tP} {Od : tO} {T2 : tT} {a0 : Int32} {a1 : Int32} {a2 : Int32} {a3 : Int32} {a4 : Int32} {a5 : Int32} (hd : decode M.2.1 pc = .ok (.getfield idx, 3)) (hf : m_fld M.1.cls idx 2 5) (kk : mJ M (pc + 3) ls (.int a5 :: st) (cH C Hs Sw T1 P1 Od T2 (a0, a1, a2, a3, a4, a5)) r h') : mJ M pc ls (.ref 28 :: st) (cH C Hs Sw T1 P1 Od T2 (a0, a1, a2, a3, a4, a5)) r h' :=
  mJ_get hd hf (h := (cH C Hs Sw T1 P1 Od T2 (a0, a1, a2, a3, a4, a5))) rfl rfl kk
theorem mJ_put_22_1 {M : mM} {pc idx : Nat} {ls st : List Value} {h' : List mC} {r : Option Value} {C : aF} {Hs : tH} {Sw : tS} {T1 : tT} {P1 : tP} {T2 : tT} {P2 : tP} {a0 : aF} {a1 : Int32} {a2 : Int32} {a3 : Int32} {a4 : Int32} {a5 : Int32} {a6 : Int32} {a7 : Int32} {x : Int32} (hd : decode M.2.1 pc = .ok (.putfield idx, 3)) (hf : m_fldp M.1.cls idx 1 1 .int) (kk : mJ M (pc + 3) ls st (cH C Hs Sw T1 P1 (a0, x, a2, a3, a4, a5, a6, a7) T2 P2) r h') : mJ M pc ls (.int x :: .ref 22 :: st) (cH C Hs Sw T1 P1 (a0, a1, a2, a3, a4, a5, a6, a7) T2 P2) r h' :=
  mJ_put hd hf (h := (cH C Hs Sw T1 P1 (a0, a1, a2, a3, a4, a5, a6, a7) T2 P2)) rfl (Nat.le_of_ble_eq_true rfl) rfl rfl rfl kk
theorem mJ_get_22_1 {M : mM} {pc idx : Nat} {ls st : List Value} {h' : List mC} {r : Option Value} {C : aF} {Hs : tH} {Sw : tS} {T1 : tT} {P1 : tP} {T2 : tT} {P2 : tP} {a0 : aF} {a1 : Int32} {a2 : Int32} {a3 : Int32} {a4 : Int32} {a5 : Int32} {a6 : Int32} {a7 : Int32} (hd : decode M.2.1 pc = .ok (.getfield idx, 3)) (hf : m_fld M.1.cls idx 1 1) (kk : mJ M (pc + 3) ls (.int a1 :: st) (cH C Hs Sw T1 P1 (a0, a1, a2, a3, a4, a5, a6, a7) T2 P2) r h') : mJ M pc ls (.ref 22 :: st) (cH C Hs Sw T1 P1 (a0, a1, a2, a3, a4, a5, a6, a7) T2 P2) r h' :=
  mJ_get hd hf (h := (cH C Hs Sw T1 P1 (a0, a1, a2, a3, a4, a5, a6, a7) T2 P2)) rfl rfl kk
theorem mJ_put_22_2 {M : mM} {pc idx : Nat} {ls st : List Value} {h' : List mC} {r : Option Value} {C : aF} {Hs : tH} {Sw : tS} {T1 : tT} {P1 : tP} {T2 : tT} {P2 : tP} {a0 : aF} {a1 : Int32} {a2 : Int32} {a3 : Int32} {a4 : Int32} {a5 : Int32} {a6 : Int32} {a7 : Int32} {x : Int32} (hd : decode M.2.1 pc = .ok (.putfield idx, 3)) (hf : m_fldp M.1.cls idx 1 2 .int) (kk : mJ M (pc + 3) ls st (cH C Hs Sw T1 P1 (a0, a1, x, a3, a4, a5, a6, a7) T2 P2) r h') : mJ M pc ls (.int x :: .ref 22 :: st) (cH C Hs Sw T1 P1 (a0, a1, a2, a3, a4, a5, a6, a7) T2 P2) r h' :=
  mJ_put hd hf (h := (cH C Hs Sw T1 P1 (a0, a1, a2, a3, a4, a5, a6, a7) T2 P2)) rfl (Nat.le_of_ble_eq_true rfl) rfl rfl rfl kk
theorem mJ_get_22_2 {M : mM} {pc idx : Nat} {ls st : List Value} {h' : List mC} {r : Option Value} {C : aF} {Hs : tH} {Sw : tS} {T1 : tT} {P1 : tP} {T2 : tT} {P2 : tP} {a0 : aF} {a1 : Int32} {a2 : Int32} {a3 : Int32} {a4 : Int32} {a5 : Int32} {a6 : Int32} {a7 : Int32} (hd : decode M.2.1 pc = .ok (.getfield idx, 3)) (hf : m_fld M.1.cls idx 1 2) (kk : mJ M (pc + 3) ls (.int a2 :: st) (cH C Hs Sw T1 P1 (a0, a1, a2, a3, a4, a5, a6, a7) T2 P2) r h') : mJ M pc ls (.ref 22 :: st) (cH C Hs Sw T1 P1 (a0, a1, a2, a3, a4, a5, a6, a7) T2 P2) r h' :=
  mJ_get hd hf (h := (cH C Hs Sw T1 P1 (a0, a1, a2, a3, a4, a5, a6, a7) T2 P2)) rfl rfl kk
theorem mJ_put_22_3 {M : mM} {pc idx : Nat} {ls st : List Value} {h' : List mC} {r : Option Value} {C : aF} {Hs : tH} {Sw : tS} {T1 : tT} {P1 : tP} {T2 : tT} {P2 : tP} {a0 : aF} {a1 : Int32} {a2 : Int32} {a3 : Int32} {a4 : Int32} {a5 : Int32} {a6 : Int32} {a7 : Int32} {x : Int32} (hd : decode M.2.1 pc = .ok (.putfield idx, 3)) (hf : m_fldp M.1.cls idx 1 3 .int) (kk : mJ M (pc + 3) ls st (cH C Hs Sw T1 P1 (a0, a1, a2, x, a4, a5, a6, a7) T2 P2) r h') : mJ M pc ls (.int x :: .ref 22 :: st) (cH C Hs Sw T1 P1 (a0, a1, a2, a3, a4, a5, a6, a7) T2 P2) r h' :=
  mJ_put hd hf (h := (cH C Hs Sw T1 P1 (a0, a1, a2, a3, a4, a5, a6, a7) T2 P2)) rfl (Nat.le_of_ble_eq_true rfl) rfl rfl rfl kk
theorem mJ_get_22_3 {M : mM} {pc idx : Nat} {ls st : List Value} {h' : List mC} {r : Option Value} {C : aF} {Hs : tH} {Sw : tS} {T1 : tT} {P1 : tP} {T2 : tT} {P2 : tP} {a0 : aF} {a1 : Int32} {a2 : Int32} {a3 : Int32} {a4 : Int32} {a5 : Int32} {a6 : Int32} {a7 : Int32} (hd : decode M.2.1 pc = .ok (.getfield idx, 3)) (hf : m_fld M.1.cls idx 1 3) (kk : mJ M (pc + 3) ls (.int a3 :: st) (cH C Hs Sw T1 P1 (a0, a1, a2, a3, a4, a5, a6, a7) T2 P2) r h') : mJ M pc ls (.ref 22 :: st) (cH C Hs Sw T1 P1 (a0, a1, a2, a3, a4, a5, a6, a7) T2 P2) r h' :=
  mJ_get hd hf (h := (cH C Hs Sw T1 P1 (a0, a1, a2, a3, a4, a5, a6, a7) T2 P2)) rfl rfl kk
theorem mJ_put_22_4 {M : mM} {pc idx : Nat} {ls st : List Value} {h' : List mC} {r : Option Value} {C : aF} {Hs : tH} {Sw : tS} {T1 : tT} {P1 : tP} {T2 : tT} {P2 : tP} {a0 : aF} {a1 : Int32} {a2 : Int32} {a3 : Int32} {a4 : Int32} {a5 : Int32} {a6 : Int32} {a7 : Int32} {x : Int32} (hd : decode M.2.1 pc = .ok (.putfield idx, 3)) (hf : m_fldp M.1.cls idx 1 4 .int) (kk : mJ M (pc + 3) ls st (cH C Hs Sw T1 P1 (a0, a1, a2, a3, x, a5, a6, a7) T2 P2) r h') : mJ M pc ls (.int x :: .ref 22 :: st) (cH C Hs Sw T1 P1 (a0, a1, a2, a3, a4, a5, a6, a7) T2 P2) r h' :=
  mJ_put hd hf (h := (cH C Hs Sw T1 P1 (a0, a1, a2, a3, a4, a5, a6, a7) T2 P2)) rfl (Nat.le_of_ble_eq_true rfl) rfl rfl rfl kk
theorem mJ_get_22_4 {M : mM} {pc idx : Nat} {ls st : List Value} {h' : List mC} {r : Option Value} {C : aF} {Hs : tH} {Sw : tS} {T1 : tT} {P1 : tP} {T2 : tT} {P2 : tP} {a0 : aF} {a1 : Int32} {a2 : Int32} {a3 : Int32} {a4 : Int32} {a5 : Int32} {a6 : Int32} {a7 : Int32} (hd : decode M.2.1 pc = .ok (.getfield idx, 3)) (hf : m_fld M.1.cls idx 1 4) (kk : mJ M (pc + 3) ls (.int a4 :: st) (cH C Hs Sw T1 P1 (a0, a1, a2, a3, a4, a5, a6, a7) T2 P2) r h') : mJ M pc ls (.ref 22 :: st) (cH C Hs Sw T1 P1 (a0, a1, a2, a3, a4, a5, a6, a7) T2 P2) r h' :=
  mJ_get hd hf (h := (cH C Hs Sw T1 P1 (a0, a1, a2, a3, a4, a5, a6, a7) T2 P2)) rfl rfl kk
theorem mJ_put_22_5 {M : mM} {pc idx : Nat} {ls st : List Value} {h' : List mC} {r : Option Value} {C : aF} {Hs : tH} {Sw : tS} {T1 : tT} {P1 : tP} {T2 : tT} {P2 : tP} {a0 : aF} {a1 : Int32} {a2 : Int32} {a3 : Int32} {a4 : Int32} {a5 : Int32} {a6 : Int32} {a7 : Int32} {x : Int32} (hd : decode M.2.1 pc = .ok (.putfield idx, 3)) (hf : m_fldp M.1.cls idx 1 5 .int) (kk : mJ M (pc + 3) ls st (cH C Hs Sw T1 P1 (a0, a1, a2, a3, a4, x, a6, a7) T2 P2) r h') : mJ M pc ls (.int x :: .ref 22 :: st) (cH C Hs Sw T1 P1 (a0, a1, a2, a3, a4, a5, a6, a7) T2 P2) r h' :=
  mJ_put hd hf (h := (cH C Hs Sw T1 P1 (a0, a1, a2, a3, a4, a5, a6, a7) T2 P2)) rfl (Nat.le_of_ble_eq_true rfl) rfl rfl rfl kk
theorem mJ_get_22_5 {M : mM} {pc idx : Nat} {ls st : List Value} {h' : List mC} {r : Option Value} {C : aF} {Hs : tH} {Sw : tS} {T1 : tT} {P1 : tP} {T2 : tT} {P2 : tP} {a0 : aF} {a1 : Int32} {a2 : Int32} {a3 : Int32} {a4 : Int32} {a5 : Int32} {a6 : Int32} {a7 : Int32} (hd : decode M.2.1 pc = .ok (.getfield idx, 3)) (hf : m_fld M.1.cls idx 1 5) (kk : mJ M (pc + 3) ls (.int a5 :: st) (cH C Hs Sw T1 P1 (a0, a1, a2, a3, a4, a5, a6, a7) T2 P2) r h') : mJ M pc ls (.ref 22 :: st) (cH C Hs Sw T1 P1 (a0, a1, a2, a3, a4, a5, a6, a7) T2 P2) r h' :=
  mJ_get hd hf (h := (cH C Hs Sw T1 P1 (a0, a1, a2, a3, a4, a5, a6, a7) T2 P2)) rfl rfl kk
theorem mJ_put_22_6 {M : mM} {pc idx : Nat} {ls st : List Value} {h' : List mC} {r : Option Value} {C : aF} {Hs : tH} {Sw : tS} {T1 : tT} {P1 : tP} {T2 : tT} {P2 : tP} {a0 : aF} {a1 : Int32} {a2 : Int32} {a3 : Int32} {a4 : Int32} {a5 : Int32} {a6 : Int32} {a7 : Int32} {x : Int32} (hd : decode M.2.1 pc = .ok (.putfield idx, 3)) (hf : m_fldp M.1.cls idx 1 6 .int) (kk : mJ M (pc + 3) ls st (cH C Hs Sw T1 P1 (a0, a1, a2, a3, a4, a5, x, a7) T2 P2) r h') : mJ M pc ls (.int x :: .ref 22 :: st) (cH C Hs Sw T1 P1 (a0, a1, a2, a3, a4, a5, a6, a7) T2 P2) r h' :=
  mJ_put hd hf (h := (cH C Hs Sw T1 P1 (a0, a1, a2, a3, a4, a5, a6, a7) T2 P2)) rfl (Nat.le_of_ble_eq_true rfl) rfl rfl rfl kk
theorem mJ_get_22_6 {M : mM} {pc idx : Nat} {ls st : List Value} {h' : List mC} {r : Option Value} {C : aF} {Hs : tH} {Sw : tS} {T1 : tT} {P1 : tP} {T2 : tT} {P2 : tP} {a0 : aF} {a1 : Int32} {a2 : Int32} {a3 : Int32} {a4 : Int32} {a5 : Int32} {a6 : Int32} {a7 : Int32} (hd : decode M.2.1 pc = .ok (.getfield idx, 3)) (hf : m_fld M.1.cls idx 1 6) (kk : mJ M (pc + 3) ls (.int a6 :: st) (cH C Hs Sw T1 P1 (a0, a1, a2, a3, a4, a5, a6, a7) T2 P2) r h') : mJ M pc ls (.ref 22 :: st) (cH C Hs Sw T1 P1 (a0, a1, a2, a3, a4, a5, a6, a7) T2 P2) r h' :=
  mJ_get hd hf (h := (cH C Hs Sw T1 P1 (a0, a1, a2, a3, a4, a5, a6, a7) T2 P2)) rfl rfl kk
theorem mJ_put_22_7 {M : mM} {pc idx : Nat} {ls st : List Value} {h' : List mC} {r : Option Value} {C : aF} {Hs : tH} {Sw : tS} {T1 : tT} {P1 : tP} {T2 : tT} {P2 : tP} {a0 : aF} {a1 : Int32} {a2 : Int32} {a3 : Int32} {a4 : Int32} {a5 : Int32} {a6 : Int32} {a7 : Int32} {x : Int32} (hd : decode M.2.1 pc = .ok (.putfield idx, 3)) (hf : m_fldp M.1.cls idx 1 7 .int) (kk : mJ M (pc + 3) ls st (cH C Hs Sw T1 P1 (a0, a1, a2, a3, a4, a5, a6, x) T2 P2) r h') : mJ M pc ls (.int x :: .ref 22 :: st) (cH C Hs Sw T1 P1 (a0, a1, a2, a3, a4, a5, a6, a7) T2 P2) r h' :=
  mJ_put hd hf (h := (cH C Hs Sw T1 P1 (a0, a1, a2, a3, a4, a5, a6, a7) T2 P2)) rfl (Nat.le_of_ble_eq_true rfl) rfl rfl rfl kk
theorem mJ_get_22_7 {M : mM} {pc idx : Nat} {ls st : List Value} {h' : List mC} {r : Option Value} {C : aF} {Hs : tH} {Sw : tS} {T1 : tT} {P1 : tP} {T2 : tT} {P2 : tP} {a0 : aF} {a1 : Int32} {a2 : Int32} {a3 : Int32} {a4 : Int32} {a5 : Int32} {a6 : Int32} {a7 : Int32} (hd : decode M.2.1 pc = .ok (.getfield idx, 3)) (hf : m_fld M.1.cls idx 1 7) (kk : mJ M (pc + 3) ls (.int a7 :: st) (cH C Hs Sw T1 P1 (a0, a1, a2, a3, a4, a5, a6, a7) T2 P2) r h') : mJ M pc ls (.ref 22 :: st) (cH C Hs Sw T1 P1 (a0, a1, a2, a3, a4, a5, a6, a7) T2 P2) r h' :=
  mJ_get hd hf (h := (cH C Hs Sw T1 P1 (a0, a1, a2, a3, a4, a5, a6, a7) T2 P2)) rfl rfl kk
theorem mJ_put_4_1 {M : mM} {pc idx : Nat} {ls st : List Value} {h' : List mC} {r : Option Value} {C : aF} {Sw : tS} {T1 : tT} {P1 : tP} {Od : tO} {T2 : tT} {P2 : tP} {a0 : aF} {a1 : Int32} {a2 : Int32} {x : Int32} (hd : decode M.2.1 pc = .ok (.putfield idx, 3)) (hf : m_fldp M.1.cls idx 0 1 .int) (kk : mJ M (pc + 3) ls st (cH C (a0, x, a2) Sw T1 P1 Od T2 P2) r h') : mJ M pc ls (.int x :: .ref 4 :: st) (cH C (a0, a1, a2) Sw T1 P1 Od T2 P2) r h' :=
  mJ_put hd hf (h := (cH C (a0, a1, a2) Sw T1 P1 Od T2 P2)) rfl (Nat.le_of_ble_eq_true rfl) rfl rfl rfl kk
theorem mJ_get_4_1 {M : mM} {pc idx : Nat} {ls st : List Value} {h' : List mC} {r : Option Value} {C : aF} {Sw : tS} {T1 : tT} {P1 : tP} {Od : tO} {T2 : tT} {P2 : tP} {a0 : aF} {a1 : Int32} {a2 : Int32} (hd : decode M.2.1 pc = .ok (.getfield idx, 3)) (hf : m_fld M.1.cls idx 0 1) (kk : mJ M (pc + 3) ls (.int a1 :: st) (cH C (a0, a1, a2) Sw T1 P1 Od T2 P2) r h') : mJ M pc ls (.ref 4 :: st) (cH C (a0, a1, a2) Sw T1 P1 Od T2 P2) r h' :=
  mJ_get hd hf (h := (cH C (a0, a1, a2) Sw T1 P1 Od T2 P2)) rfl rfl kk
theorem mJ_put_4_2 {M : mM} {pc idx : Nat} {ls st : List Value} {h' : List mC} {r : Option Value} {C : aF} {Sw : tS} {T1 : tT} {P1 : tP} {Od : tO} {T2 : tT} {P2 : tP} {a0 : aF} {a1 : Int32} {a2 : Int32} {x : Int32} (hd : decode M.2.1 pc = .ok (.putfield idx, 3)) (hf : m_fldp M.1.cls idx 0 2 .int) (kk : mJ M (pc + 3) ls st (cH C (a0, a1, x) Sw T1 P1 Od T2 P2) r h') : mJ M pc ls (.int x :: .ref 4 :: st) (cH C (a0, a1, a2) Sw T1 P1 Od T2 P2) r h' :=
  mJ_put hd hf (h := (cH C (a0, a1, a2) Sw T1 P1 Od T2 P2)) rfl (Nat.le_of_ble_eq_true rfl) rfl rfl rfl kk
theorem mJ_get_4_2 {M : mM} {pc idx : Nat} {ls st : List Value} {h' : List mC} {r : Option Value} {C : aF} {Sw : tS} {T1 : tT} {P1 : tP} {Od : tO} {T2 : tT} {P2 : tP} {a0 : aF} {a1 : Int32} {a2 : Int32} (hd : decode M.2.1 pc = .ok (.getfield idx, 3)) (hf : m_fld M.1.cls idx 0 2) (kk : mJ M (pc + 3) ls (.int a2 :: st) (cH C (a0, a1, a2) Sw T1 P1 Od T2 P2) r h') : mJ M pc ls (.ref 4 :: st) (cH C (a0, a1, a2) Sw T1 P1 Od T2 P2) r h' :=
  mJ_get hd hf (h := (cH C (a0, a1, a2) Sw T1 P1 Od T2 P2)) rfl rfl kk
theorem mJ_put_7_7 {M : mM} {pc idx : Nat} {ls st : List Value} {h' : List mC} {r : Option Value} {C : aF} {Hs : tH} {T1 : tT} {P1 : tP} {Od : tO} {T2 : tT} {P2 : tP} {a0 : aF} {a1 : aF} {a2 : aF} {a3 : aF} {a4 : aF} {a5 : Int32} {x : Int32} (hd : decode M.2.1 pc = .ok (.putfield idx, 3)) (hf : m_fldp M.1.cls idx 4 7 .int) (kk : mJ M (pc + 3) ls st (cH C Hs (a0, a1, a2, a3, a4, x) T1 P1 Od T2 P2) r h') : mJ M pc ls (.int x :: .ref 7 :: st) (cH C Hs (a0, a1, a2, a3, a4, a5) T1 P1 Od T2 P2) r h' :=
  mJ_put hd hf (h := (cH C Hs (a0, a1, a2, a3, a4, a5) T1 P1 Od T2 P2)) rfl (Nat.le_of_ble_eq_true rfl) rfl rfl rfl kk
theorem mJ_get_7_7 {M : mM} {pc idx : Nat} {ls st : List Value} {h' : List mC} {r : Option Value} {C : aF} {Hs : tH} {T1 : tT} {P1 : tP} {Od : tO} {T2 : tT} {P2 : tP} {a0 : aF} {a1 : aF} {a2 : aF} {a3 : aF} {a4 : aF} {a5 : Int32} (hd : decode M.2.1 pc = .ok (.getfield idx, 3)) (hf : m_fld M.1.cls idx 4 7) (kk : mJ M (pc + 3) ls (.int a5 :: st) (cH C Hs (a0, a1, a2, a3, a4, a5) T1 P1 Od T2 P2) r h') : mJ M pc ls (.ref 7 :: st) (cH C Hs (a0, a1, a2, a3, a4, a5) T1 P1 Od T2 P2) r h' :=
  mJ_get hd hf (h := (cH C Hs (a0, a1, a2, a3, a4, a5) T1 P1 Od T2 P2)) rfl rfl kk
theorem mJ_put_18_1 {M : mM} {pc idx : Nat} {ls st : List Value} {h' : List mC} {r : Option Value} {C : aF} {Hs : tH} {Sw : tS} {P1 : tP} {Od : tO} {T2 : tT} {P2 : tP} {a0 : aF} {a1 : Int32} {x : Int32} (hd : decode M.2.1 pc = .ok (.putfield idx, 3)) (hf : m_fldp M.1.cls idx 6 1 .int) (kk : mJ M (pc + 3) ls st (cH C Hs Sw (a0, x) P1 Od T2 P2) r h') : mJ M pc ls (.int x :: .ref 18 :: st) (cH C Hs Sw (a0, a1) P1 Od T2 P2) r h' :=
  mJ_put hd hf (h := (cH C Hs Sw (a0, a1) P1 Od T2 P2)) rfl (Nat.le_of_ble_eq_true rfl) rfl rfl rfl kk
theorem mJ_get_18_1 {M : mM} {pc idx : Nat} {ls st : List Value} {h' : List mC} {r : Option Value} {C : aF} {Hs : tH} {Sw : tS} {P1 : tP} {Od : tO} {T2 : tT} {P2 : tP} {a0 : aF} {a1 : Int32} (hd : decode M.2.1 pc = .ok (.getfield idx, 3)) (hf : m_fld M.1.cls idx 6 1) (kk : mJ M (pc + 3) ls (.int a1 :: st) (cH C Hs Sw (a0, a1) P1 Od T2 P2) r h') : mJ M pc ls (.ref 18 :: st) (cH C Hs Sw (a0, a1) P1 Od T2 P2) r h' :=
  mJ_get hd hf (h := (cH C Hs Sw (a0, a1) P1 Od T2 P2)) rfl rfl kk
theorem mJ_put_25_1 {M : mM} {pc idx : Nat} {ls st : List Value} {h' : List mC} {r : Option Value} {C : aF} {Hs : tH} {Sw : tS} {T1 : tT} {P1 : tP} {Od : tO} {P2 : tP} {a0 : aF} {a1 : Int32} {x : Int32} (hd : decode M.2.1 pc = .ok (.putfield idx, 3)) (hf : m_fldp M.1.cls idx 6 1 .int) (kk : mJ M (pc + 3) ls st (cH C Hs Sw T1 P1 Od (a0, x) P2) r h') : mJ M pc ls (.int x :: .ref 25 :: st) (cH C Hs Sw T1 P1 Od (a0, a1) P2) r h' :=
  mJ_put hd hf (h := (cH C Hs Sw T1 P1 Od (a0, a1) P2)) rfl (Nat.le_of_ble_eq_true rfl) rfl rfl rfl kk
theorem mJ_get_25_1 {M : mM} {pc idx : Nat} {ls st : List Value} {h' : List mC} {r : Option Value} {C : aF} {Hs : tH} {Sw : tS} {T1 : tT} {P1 : tP} {Od : tO} {P2 : tP} {a0 : aF} {a1 : Int32} (hd : decode M.2.1 pc = .ok (.getfield idx, 3)) (hf : m_fld M.1.cls idx 6 1) (kk : mJ M (pc + 3) ls (.int a1 :: st) (cH C Hs Sw T1 P1 Od (a0, a1) P2) r h') : mJ M pc ls (.ref 25 :: st) (cH C Hs Sw T1 P1 Od (a0, a1) P2) r h' :=
  mJ_get hd hf (h := (cH C Hs Sw T1 P1 Od (a0, a1) P2)) rfl rfl kk
/-! A HINT'S PLACE, the lists of sides, the history, small changes of the state row -/
noncomputable def f_len (C : aF) (h s : Int32) : Int32 := iif (q_lv s) (gH C h 1) (gH C h 2)
noncomputable def f_b0 (C : aF) (h s : Int32) : Int32 := iif (q_lv s) (v_beg C h 0 2 1) (v_beg C h 1 3 2)
noncomputable def f_mid (C : aF) (h s : Int32) : Int32 := iif (q_lv s) (v_mid C h 0 2) (v_mid C h 1 3)
noncomputable def f_shf (C : aF) (h s vw vh : Int32) : Int32 := if gH C h 6 = 1 then v_shi (iif (q_lv s) (gG C 0) (gG C 1)) (iif (q_lv s) vw vh) (f_b0 C h s) (f_len C h s) (f_mid C h s - f_b0 C h s) (gS C 1) else 0
noncomputable def f_beg (C : aF) (h s vw vh : Int32) : Int32 := f_b0 C h s + f_shf C h s vw vh
noncomputable def f_arr (C : aF) (h s vw vh : Int32) : Int32 := f_mid C h s - f_beg C h s vw vh
def f_gd (C : aF) (h s vw vh : Int32) : Prop := q_gd (f_arr C h s vw vh) (f_len C h s) (gS C 1)
noncomputable def f_acr (C : aF) (h s : Int32) : Int32 := iif (q_bf s) (v_edge C (gH C h 0) s - iif (q_lv s) (gH C h 2) (gH C h 1)) (v_edge C (gH C h 0) s)
noncomputable def f_x (C : aF) (h s vw vh : Int32) : Int32 := iif (q_lv s) (f_beg C h s vw vh) (f_acr C h s)
noncomputable def f_y (C : aF) (h s vw vh : Int32) : Int32 := iif (q_lv s) (f_acr C h s) (f_beg C h s vw vh)
def f_in (C : aF) (h s vw vh : Int32) : Prop := q_sl (f_x C h s vw vh) (gH C h 1) (gG C 0) vw ∧ q_sl (f_y C h s vw vh) (gH C h 2) (gG C 1) vh
noncomputable def f_P (C : aF) (h s vw vh : Int32) : tP := (f_x C h s vw vh, f_y C h s vw vh, f_shf C h s vw vh, f_arr C h s vw vh, b2i (f_gd C h s vw vh), b2i (f_in C h s vw vh))
set_option maxHeartbeats 4000000 in
set_option maxRecDepth 100000 in
theorem C_X2_find_21 {C : aF} {Hs : tH} {Sw : tS} {T1 : tT} {P1 : tP} {Od : tO} {T2 : tT} {P2 : tP} {h s vh vw : Int32} : mCt k_X2_find [.ref 21, .ref 1, .int h, .int s, .int vw, .int vh] (cH C Hs Sw T1 P1 Od T2 P2) none (cH C Hs Sw T1 (f_P C h s vw vh) Od T2 P2) := by
  obtain ⟨y1, y2, y3, y4, y5, y6⟩ := P1
  refine mCt_intro (plainFor_of_name rfl) (Nat.le_of_ble_eq_true rfl) (m_all rfl) (ls := [_, _, _, _, _, _, _, _, _, _, _, _, _, _, _]) rfl ?_
  refine mJ_aload_n dX2_find_0 rfl ?_
  refine mJ_iload_n dX2_find_1 rfl ?_
  refine mJ_iconst (v := 1) dX2_find_2 rfl ?_
  refine mJ_cV2i dX2_find_3 e_X5_hintValue n_X2_9 ⟨Nat.le_of_ble_eq_true rfl, Nat.le_of_ble_eq_true rfl⟩ rfl rfl (Nat.le_of_ble_eq_true rfl) (C_X5_hintValue) ?_
  refine mJ_istore dX2_find_6 (Nat.le_of_ble_eq_true rfl) (ls2 := [_, _, _, _, _, _, _, _, _, _, _, _, _, _, _]) rfl ?_
  refine mJ_aload_n dX2_find_8 rfl ?_
  refine mJ_iload_n dX2_find_9 rfl ?_
  refine mJ_iconst (v := 2) dX2_find_10 rfl ?_
  refine mJ_cV2i dX2_find_11 e_X5_hintValue n_X2_9 ⟨Nat.le_of_ble_eq_true rfl, Nat.le_of_ble_eq_true rfl⟩ rfl rfl (Nat.le_of_ble_eq_true rfl) (C_X5_hintValue) ?_
  refine mJ_istore dX2_find_14 (Nat.le_of_ble_eq_true rfl) (ls2 := [_, _, _, _, _, _, _, _, _, _, _, _, _, _, _]) rfl ?_
  refine mJ_iload_n dX2_find_16 rfl ?_
  refine mJ_cS1i dX2_find_17 e_X7_isLevel n_X2_15 ⟨Nat.le_of_ble_eq_true rfl, Nat.le_of_ble_eq_true rfl⟩ (Nat.le_of_ble_eq_true rfl) (C_X7_isLevel) ?_
  refine mJ_b2i (fun b_17 => ?_) (fun b_17 => ?_)
  · refine mJ_istore dX2_find_20 (Nat.le_of_ble_eq_true rfl) (ls2 := [_, _, _, _, _, _, _, _, _, _, _, _, _, _, _]) rfl ?_
    refine mJ_iload dX2_find_22 rfl ?_
    refine mJ_if_eq 32 dX2_find_24 rfl (fun c => absurd c (by decide)) (fun _ => ?_)
    refine mJ_iload dX2_find_27 rfl ?_
    refine mJ_goto 34 dX2_find_29 rfl ?_
    refine mJ_istore dX2_find_34 (Nat.le_of_ble_eq_true rfl) (ls2 := [_, _, _, _, _, _, _, _, _, _, _, _, _, _, _]) rfl ?_
    refine mJ_aload_n dX2_find_36 rfl ?_
    refine mJ_iload_n dX2_find_37 rfl ?_
    refine mJ_iload dX2_find_38 rfl ?_
    refine mJ_cS3i dX2_find_40 e_X2_beginAlong n_X2_19 ⟨Nat.le_of_ble_eq_true rfl, Nat.le_of_ble_eq_true rfl⟩ (Nat.le_of_ble_eq_true rfl) (C_X2_beginAlong_1) ?_
    refine mJ_istore dX2_find_43 (Nat.le_of_ble_eq_true rfl) (ls2 := [_, _, _, _, _, _, _, _, _, _, _, _, _, _, _]) rfl ?_
    refine mJ_aload_n dX2_find_45 rfl ?_
    refine mJ_iload_n dX2_find_46 rfl ?_
    refine mJ_iload dX2_find_47 rfl ?_
    refine mJ_cS3i dX2_find_49 e_X2_middleAlong n_X2_25 ⟨Nat.le_of_ble_eq_true rfl, Nat.le_of_ble_eq_true rfl⟩ (Nat.le_of_ble_eq_true rfl) (C_X2_middleAlong_1) ?_
    refine mJ_istore dX2_find_52 (Nat.le_of_ble_eq_true rfl) (ls2 := [_, _, _, _, _, _, _, _, _, _, _, _, _, _, _]) rfl ?_
    refine mJ_aload_n dX2_find_54 rfl ?_
    refine mJ_iconst (v := 1) dX2_find_55 rfl ?_
    refine mJ_cV1i dX2_find_56 e_X5_setting n_X2_28 ⟨Nat.le_of_ble_eq_true rfl, Nat.le_of_ble_eq_true rfl⟩ rfl rfl (Nat.le_of_ble_eq_true rfl) (C_X5_setting) ?_
    refine mJ_istore dX2_find_59 (Nat.le_of_ble_eq_true rfl) (ls2 := [_, _, _, _, _, _, _, _, _, _, _, _, _, _, _]) rfl ?_
    refine mJ_aload_n dX2_find_61 rfl ?_
    refine mJ_iconst (v := 0) dX2_find_62 rfl ?_
    refine mJ_put_21_2 dX2_find_63 p_X2_32 ?_
    refine mJ_aload_n dX2_find_66 rfl ?_
    refine mJ_iload_n dX2_find_67 rfl ?_
    refine mJ_bipush (v := 6) dX2_find_68 rfl ?_
    refine mJ_cV2i dX2_find_70 e_X5_hintValue n_X2_9 ⟨Nat.le_of_ble_eq_true rfl, Nat.le_of_ble_eq_true rfl⟩ rfl rfl (Nat.le_of_ble_eq_true rfl) (C_X5_hintValue) ?_
    refine mJ_iconst (v := 1) dX2_find_73 rfl ?_
    refine mJ_icmp_ne 125 dX2_find_74 rfl (fun c_74 => ?_) (fun c_74 => ?_)
    · refine mJ_iload dX2_find_125 rfl ?_
      refine mJ_aload_n dX2_find_127 rfl ?_
      refine mJ_get_21_2 dX2_find_128 f_X2_32 ?_
      refine mJ_iadd dX2_find_131 ?_
      refine mJ_istore dX2_find_132 (Nat.le_of_ble_eq_true rfl) (ls2 := [_, _, _, _, _, _, _, _, _, _, _, _, _, _, _]) rfl ?_
      refine mJ_aload_n dX2_find_134 rfl ?_
      refine mJ_iload dX2_find_135 rfl ?_
      refine mJ_iload dX2_find_137 rfl ?_
      refine mJ_isub dX2_find_139 ?_
      refine mJ_put_21_3 dX2_find_140 p_X2_43 ?_
      refine mJ_aload_n dX2_find_143 rfl ?_
      refine mJ_aload_n dX2_find_144 rfl ?_
      refine mJ_get_21_3 dX2_find_145 f_X2_43 ?_
      refine mJ_iload dX2_find_148 rfl ?_
      refine mJ_iload dX2_find_150 rfl ?_
      refine mJ_cS3i dX2_find_152 e_X2_isGood n_X2_46 ⟨Nat.le_of_ble_eq_true rfl, Nat.le_of_ble_eq_true rfl⟩ (Nat.le_of_ble_eq_true rfl) (C_X2_isGood) ?_
      refine mJ_put_21_4 dX2_find_155 p_X2_50 (b2i_01 _) ?_
      refine mJ_aload_n dX2_find_158 rfl ?_
      refine mJ_aload_n dX2_find_159 rfl ?_
      refine mJ_iload_n dX2_find_160 rfl ?_
      refine mJ_iconst (v := 0) dX2_find_161 rfl ?_
      refine mJ_cV2i dX2_find_162 e_X5_hintValue n_X2_9 ⟨Nat.le_of_ble_eq_true rfl, Nat.le_of_ble_eq_true rfl⟩ rfl rfl (Nat.le_of_ble_eq_true rfl) (C_X5_hintValue) ?_
      refine mJ_iload_n dX2_find_165 rfl ?_
      refine mJ_cS3i dX2_find_166 e_X7_edgeBy n_X2_54 ⟨Nat.le_of_ble_eq_true rfl, Nat.le_of_ble_eq_true rfl⟩ (Nat.le_of_ble_eq_true rfl) (C_X7_edgeBy) ?_
      refine mJ_istore dX2_find_169 (Nat.le_of_ble_eq_true rfl) (ls2 := [_, _, _, _, _, _, _, _, _, _, _, _, _, _, _]) rfl ?_
      refine mJ_iload_n dX2_find_171 rfl ?_
      refine mJ_cS1i dX2_find_172 e_X7_isBefore n_X2_58 ⟨Nat.le_of_ble_eq_true rfl, Nat.le_of_ble_eq_true rfl⟩ (Nat.le_of_ble_eq_true rfl) (C_X7_isBefore) ?_
      refine mJ_b2i (fun b_172 => ?_) (fun b_172 => ?_)
      · refine mJ_if_eq 196 dX2_find_175 rfl (fun c => absurd c (by decide)) (fun _ => ?_)
        refine mJ_iload dX2_find_178 rfl ?_
        refine mJ_iload dX2_find_180 rfl ?_
        refine mJ_if_eq 190 dX2_find_182 rfl (fun c => absurd c (by decide)) (fun _ => ?_)
        refine mJ_iload dX2_find_185 rfl ?_
        refine mJ_goto 192 dX2_find_187 rfl ?_
        refine mJ_isub dX2_find_192 ?_
        refine mJ_goto 198 dX2_find_193 rfl ?_
        refine mJ_istore dX2_find_198 (Nat.le_of_ble_eq_true rfl) (ls2 := [_, _, _, _, _, _, _, _, _, _, _, _, _, _, _]) rfl ?_
        refine mJ_aload_n dX2_find_200 rfl ?_
        refine mJ_iload dX2_find_201 rfl ?_
        refine mJ_if_eq 211 dX2_find_203 rfl (fun c => absurd c (by decide)) (fun _ => ?_)
        refine mJ_iload dX2_find_206 rfl ?_
        refine mJ_goto 213 dX2_find_208 rfl ?_
        refine mJ_put_21_0 dX2_find_213 p_X2_61 ?_
        refine mJ_aload_n dX2_find_216 rfl ?_
        refine mJ_iload dX2_find_217 rfl ?_
        refine mJ_if_eq 227 dX2_find_219 rfl (fun c => absurd c (by decide)) (fun _ => ?_)
        refine mJ_iload dX2_find_222 rfl ?_
        refine mJ_goto 229 dX2_find_224 rfl ?_
        refine mJ_put_21_1 dX2_find_229 p_X2_64 ?_
        refine mJ_aload_n dX2_find_232 rfl ?_
        refine mJ_aload_n dX2_find_233 rfl ?_
        refine mJ_get_21_0 dX2_find_234 f_X2_61 ?_
        refine mJ_iload dX2_find_237 rfl ?_
        refine mJ_aload_n dX2_find_239 rfl ?_
        refine mJ_iconst (v := 0) dX2_find_240 rfl ?_
        refine mJ_cV1i dX2_find_241 e_X5_get n_X2_36 ⟨Nat.le_of_ble_eq_true rfl, Nat.le_of_ble_eq_true rfl⟩ rfl rfl (Nat.le_of_ble_eq_true rfl) (C_X5_get) ?_
        refine mJ_iload dX2_find_244 rfl ?_
        refine mJ_cS4i dX2_find_246 e_X7_spanLiesIn n_X2_67 ⟨Nat.le_of_ble_eq_true rfl, Nat.le_of_ble_eq_true rfl⟩ (Nat.le_of_ble_eq_true rfl) (C_X7_spanLiesIn) ?_
        refine mJ_b2i (fun b_246 => ?_) (fun b_246 => ?_)
        · refine mJ_if_eq 275 dX2_find_249 rfl (fun c => absurd c (by decide)) (fun _ => ?_)
          refine mJ_aload_n dX2_find_252 rfl ?_
          refine mJ_get_21_1 dX2_find_253 f_X2_64 ?_
          refine mJ_iload dX2_find_256 rfl ?_
          refine mJ_aload_n dX2_find_258 rfl ?_
          refine mJ_iconst (v := 1) dX2_find_259 rfl ?_
          refine mJ_cV1i dX2_find_260 e_X5_get n_X2_36 ⟨Nat.le_of_ble_eq_true rfl, Nat.le_of_ble_eq_true rfl⟩ rfl rfl (Nat.le_of_ble_eq_true rfl) (C_X5_get) ?_
          refine mJ_iload dX2_find_263 rfl ?_
          refine mJ_cS4i dX2_find_265 e_X7_spanLiesIn n_X2_67 ⟨Nat.le_of_ble_eq_true rfl, Nat.le_of_ble_eq_true rfl⟩ (Nat.le_of_ble_eq_true rfl) (C_X7_spanLiesIn) ?_
          refine mJ_b2i (fun b_265 => ?_) (fun b_265 => ?_)
          · refine mJ_if_eq 275 dX2_find_268 rfl (fun c => absurd c (by decide)) (fun _ => ?_)
            refine mJ_iconst (v := 1) dX2_find_271 rfl ?_
            refine mJ_goto 276 dX2_find_272 rfl ?_
            refine mJ_put_21_5 dX2_find_276 p_X2_71 (Or.inr rfl) ?_
            exact mJ_vret dX2_find_279 rfl (rfl) (by simp_all [f_P, f_x, f_y, f_acr, f_arr, f_beg, f_gd, f_in, f_len, f_b0, f_mid, f_shf, iif_t, iif_f, b2i_t, b2i_f])
          · refine mJ_if_eq 275 dX2_find_268 rfl (fun _ => ?_) (fun c => absurd c (by decide))
            refine mJ_iconst (v := 0) dX2_find_275 rfl ?_
            refine mJ_put_21_5 dX2_find_276 p_X2_71 (Or.inl rfl) ?_
            exact mJ_vret dX2_find_279 rfl (rfl) (by simp_all [f_P, f_x, f_y, f_acr, f_arr, f_beg, f_gd, f_in, f_len, f_b0, f_mid, f_shf, iif_t, iif_f, b2i_t, b2i_f])
        · refine mJ_if_eq 275 dX2_find_249 rfl (fun _ => ?_) (fun c => absurd c (by decide))
          refine mJ_iconst (v := 0) dX2_find_275 rfl ?_
          refine mJ_put_21_5 dX2_find_276 p_X2_71 (Or.inl rfl) ?_
          exact mJ_vret dX2_find_279 rfl (rfl) (by simp_all [f_P, f_x, f_y, f_acr, f_arr, f_beg, f_gd, f_in, f_len, f_b0, f_mid, f_shf, iif_t, iif_f, b2i_t, b2i_f])
      · refine mJ_if_eq 196 dX2_find_175 rfl (fun _ => ?_) (fun c => absurd c (by decide))
        refine mJ_iload dX2_find_196 rfl ?_
        refine mJ_istore dX2_find_198 (Nat.le_of_ble_eq_true rfl) (ls2 := [_, _, _, _, _, _, _, _, _, _, _, _, _, _, _]) rfl ?_
        refine mJ_aload_n dX2_find_200 rfl ?_
        refine mJ_iload dX2_find_201 rfl ?_
        refine mJ_if_eq 211 dX2_find_203 rfl (fun c => absurd c (by decide)) (fun _ => ?_)
        refine mJ_iload dX2_find_206 rfl ?_
        refine mJ_goto 213 dX2_find_208 rfl ?_
        refine mJ_put_21_0 dX2_find_213 p_X2_61 ?_
        refine mJ_aload_n dX2_find_216 rfl ?_
        refine mJ_iload dX2_find_217 rfl ?_
        refine mJ_if_eq 227 dX2_find_219 rfl (fun c => absurd c (by decide)) (fun _ => ?_)
        refine mJ_iload dX2_find_222 rfl ?_
        refine mJ_goto 229 dX2_find_224 rfl ?_
        refine mJ_put_21_1 dX2_find_229 p_X2_64 ?_
        refine mJ_aload_n dX2_find_232 rfl ?_
        refine mJ_aload_n dX2_find_233 rfl ?_
        refine mJ_get_21_0 dX2_find_234 f_X2_61 ?_
        refine mJ_iload dX2_find_237 rfl ?_
        refine mJ_aload_n dX2_find_239 rfl ?_
        refine mJ_iconst (v := 0) dX2_find_240 rfl ?_
        refine mJ_cV1i dX2_find_241 e_X5_get n_X2_36 ⟨Nat.le_of_ble_eq_true rfl, Nat.le_of_ble_eq_true rfl⟩ rfl rfl (Nat.le_of_ble_eq_true rfl) (C_X5_get) ?_
        refine mJ_iload dX2_find_244 rfl ?_
        refine mJ_cS4i dX2_find_246 e_X7_spanLiesIn n_X2_67 ⟨Nat.le_of_ble_eq_true rfl, Nat.le_of_ble_eq_true rfl⟩ (Nat.le_of_ble_eq_true rfl) (C_X7_spanLiesIn) ?_
        refine mJ_b2i (fun b_246 => ?_) (fun b_246 => ?_)
        · refine mJ_if_eq 275 dX2_find_249 rfl (fun c => absurd c (by decide)) (fun _ => ?_)
          refine mJ_aload_n dX2_find_252 rfl ?_
          refine mJ_get_21_1 dX2_find_253 f_X2_64 ?_
          refine mJ_iload dX2_find_256 rfl ?_
          refine mJ_aload_n dX2_find_258 rfl ?_
          refine mJ_iconst (v := 1) dX2_find_259 rfl ?_
          refine mJ_cV1i dX2_find_260 e_X5_get n_X2_36 ⟨Nat.le_of_ble_eq_true rfl, Nat.le_of_ble_eq_true rfl⟩ rfl rfl (Nat.le_of_ble_eq_true rfl) (C_X5_get) ?_
          refine mJ_iload dX2_find_263 rfl ?_
          refine mJ_cS4i dX2_find_265 e_X7_spanLiesIn n_X2_67 ⟨Nat.le_of_ble_eq_true rfl, Nat.le_of_ble_eq_true rfl⟩ (Nat.le_of_ble_eq_true rfl) (C_X7_spanLiesIn) ?_
          refine mJ_b2i (fun b_265 => ?_) (fun b_265 => ?_)
          · refine mJ_if_eq 275 dX2_find_268 rfl (fun c => absurd c (by decide)) (fun _ => ?_)
            refine mJ_iconst (v := 1) dX2_find_271 rfl ?_
            refine mJ_goto 276 dX2_find_272 rfl ?_
            refine mJ_put_21_5 dX2_find_276 p_X2_71 (Or.inr rfl) ?_
            exact mJ_vret dX2_find_279 rfl (rfl) (by simp_all [f_P, f_x, f_y, f_acr, f_arr, f_beg, f_gd, f_in, f_len, f_b0, f_mid, f_shf, iif_t, iif_f, b2i_t, b2i_f])
          · refine mJ_if_eq 275 dX2_find_268 rfl (fun _ => ?_) (fun c => absurd c (by decide))
            refine mJ_iconst (v := 0) dX2_find_275 rfl ?_
            refine mJ_put_21_5 dX2_find_276 p_X2_71 (Or.inl rfl) ?_
            exact mJ_vret dX2_find_279 rfl (rfl) (by simp_all [f_P, f_x, f_y, f_acr, f_arr, f_beg, f_gd, f_in, f_len, f_b0, f_mid, f_shf, iif_t, iif_f, b2i_t, b2i_f])
        · refine mJ_if_eq 275 dX2_find_249 rfl (fun _ => ?_) (fun c => absurd c (by decide))
          refine mJ_iconst (v := 0) dX2_find_275 rfl ?_
          refine mJ_put_21_5 dX2_find_276 p_X2_71 (Or.inl rfl) ?_
          exact mJ_vret dX2_find_279 rfl (rfl) (by simp_all [f_P, f_x, f_y, f_acr, f_arr, f_beg, f_gd, f_in, f_len, f_b0, f_mid, f_shf, iif_t, iif_f, b2i_t, b2i_f])
    · refine mJ_aload_n dX2_find_77 rfl ?_
      refine mJ_iload dX2_find_78 rfl ?_
      refine mJ_if_eq 87 dX2_find_80 rfl (fun c => absurd c (by decide)) (fun _ => ?_)
      refine mJ_iconst (v := 0) dX2_find_83 rfl ?_
      refine mJ_goto 88 dX2_find_84 rfl ?_
      refine mJ_cV1i dX2_find_88 e_X5_get n_X2_36 ⟨Nat.le_of_ble_eq_true rfl, Nat.le_of_ble_eq_true rfl⟩ rfl rfl (Nat.le_of_ble_eq_true rfl) (C_X5_get) ?_
      refine mJ_istore dX2_find_91 (Nat.le_of_ble_eq_true rfl) (ls2 := [_, _, _, _, _, _, _, _, _, _, _, _, _, _, _]) rfl ?_
      refine mJ_aload_n dX2_find_93 rfl ?_
      refine mJ_iload dX2_find_94 rfl ?_
      refine mJ_iload dX2_find_96 rfl ?_
      refine mJ_if_eq 106 dX2_find_98 rfl (fun c => absurd c (by decide)) (fun _ => ?_)
      refine mJ_iload dX2_find_101 rfl ?_
      refine mJ_goto 108 dX2_find_103 rfl ?_
      refine mJ_iload dX2_find_108 rfl ?_
      refine mJ_iload dX2_find_110 rfl ?_
      refine mJ_iload dX2_find_112 rfl ?_
      refine mJ_iload dX2_find_114 rfl ?_
      refine mJ_isub dX2_find_116 ?_
      refine mJ_iload dX2_find_117 rfl ?_
      refine mJ_cS6i dX2_find_119 e_X2_shiftInto n_X2_39 ⟨Nat.le_of_ble_eq_true rfl, Nat.le_of_ble_eq_true rfl⟩ (Nat.le_of_ble_eq_true rfl) (C_X2_shiftInto) ?_
      refine mJ_put_21_2 dX2_find_122 p_X2_32 ?_
      refine mJ_iload dX2_find_125 rfl ?_
      refine mJ_aload_n dX2_find_127 rfl ?_
      refine mJ_get_21_2 dX2_find_128 f_X2_32 ?_
      refine mJ_iadd dX2_find_131 ?_
      refine mJ_istore dX2_find_132 (Nat.le_of_ble_eq_true rfl) (ls2 := [_, _, _, _, _, _, _, _, _, _, _, _, _, _, _]) rfl ?_
      refine mJ_aload_n dX2_find_134 rfl ?_
      refine mJ_iload dX2_find_135 rfl ?_
      refine mJ_iload dX2_find_137 rfl ?_
      refine mJ_isub dX2_find_139 ?_
      refine mJ_put_21_3 dX2_find_140 p_X2_43 ?_
      refine mJ_aload_n dX2_find_143 rfl ?_
      refine mJ_aload_n dX2_find_144 rfl ?_
      refine mJ_get_21_3 dX2_find_145 f_X2_43 ?_
      refine mJ_iload dX2_find_148 rfl ?_
      refine mJ_iload dX2_find_150 rfl ?_
      refine mJ_cS3i dX2_find_152 e_X2_isGood n_X2_46 ⟨Nat.le_of_ble_eq_true rfl, Nat.le_of_ble_eq_true rfl⟩ (Nat.le_of_ble_eq_true rfl) (C_X2_isGood) ?_
      refine mJ_put_21_4 dX2_find_155 p_X2_50 (b2i_01 _) ?_
      refine mJ_aload_n dX2_find_158 rfl ?_
      refine mJ_aload_n dX2_find_159 rfl ?_
      refine mJ_iload_n dX2_find_160 rfl ?_
      refine mJ_iconst (v := 0) dX2_find_161 rfl ?_
      refine mJ_cV2i dX2_find_162 e_X5_hintValue n_X2_9 ⟨Nat.le_of_ble_eq_true rfl, Nat.le_of_ble_eq_true rfl⟩ rfl rfl (Nat.le_of_ble_eq_true rfl) (C_X5_hintValue) ?_
      refine mJ_iload_n dX2_find_165 rfl ?_
      refine mJ_cS3i dX2_find_166 e_X7_edgeBy n_X2_54 ⟨Nat.le_of_ble_eq_true rfl, Nat.le_of_ble_eq_true rfl⟩ (Nat.le_of_ble_eq_true rfl) (C_X7_edgeBy) ?_
      refine mJ_istore dX2_find_169 (Nat.le_of_ble_eq_true rfl) (ls2 := [_, _, _, _, _, _, _, _, _, _, _, _, _, _, _]) rfl ?_
      refine mJ_iload_n dX2_find_171 rfl ?_
      refine mJ_cS1i dX2_find_172 e_X7_isBefore n_X2_58 ⟨Nat.le_of_ble_eq_true rfl, Nat.le_of_ble_eq_true rfl⟩ (Nat.le_of_ble_eq_true rfl) (C_X7_isBefore) ?_
      refine mJ_b2i (fun b_172 => ?_) (fun b_172 => ?_)
      · refine mJ_if_eq 196 dX2_find_175 rfl (fun c => absurd c (by decide)) (fun _ => ?_)
        refine mJ_iload dX2_find_178 rfl ?_
        refine mJ_iload dX2_find_180 rfl ?_
        refine mJ_if_eq 190 dX2_find_182 rfl (fun c => absurd c (by decide)) (fun _ => ?_)
        refine mJ_iload dX2_find_185 rfl ?_
        refine mJ_goto 192 dX2_find_187 rfl ?_
        refine mJ_isub dX2_find_192 ?_
        refine mJ_goto 198 dX2_find_193 rfl ?_
        refine mJ_istore dX2_find_198 (Nat.le_of_ble_eq_true rfl) (ls2 := [_, _, _, _, _, _, _, _, _, _, _, _, _, _, _]) rfl ?_
        refine mJ_aload_n dX2_find_200 rfl ?_
        refine mJ_iload dX2_find_201 rfl ?_
        refine mJ_if_eq 211 dX2_find_203 rfl (fun c => absurd c (by decide)) (fun _ => ?_)
        refine mJ_iload dX2_find_206 rfl ?_
        refine mJ_goto 213 dX2_find_208 rfl ?_
        refine mJ_put_21_0 dX2_find_213 p_X2_61 ?_
        refine mJ_aload_n dX2_find_216 rfl ?_
        refine mJ_iload dX2_find_217 rfl ?_
        refine mJ_if_eq 227 dX2_find_219 rfl (fun c => absurd c (by decide)) (fun _ => ?_)
        refine mJ_iload dX2_find_222 rfl ?_
        refine mJ_goto 229 dX2_find_224 rfl ?_
        refine mJ_put_21_1 dX2_find_229 p_X2_64 ?_
        refine mJ_aload_n dX2_find_232 rfl ?_
        refine mJ_aload_n dX2_find_233 rfl ?_
        refine mJ_get_21_0 dX2_find_234 f_X2_61 ?_
        refine mJ_iload dX2_find_237 rfl ?_
        refine mJ_aload_n dX2_find_239 rfl ?_
        refine mJ_iconst (v := 0) dX2_find_240 rfl ?_
        refine mJ_cV1i dX2_find_241 e_X5_get n_X2_36 ⟨Nat.le_of_ble_eq_true rfl, Nat.le_of_ble_eq_true rfl⟩ rfl rfl (Nat.le_of_ble_eq_true rfl) (C_X5_get) ?_
        refine mJ_iload dX2_find_244 rfl ?_
        refine mJ_cS4i dX2_find_246 e_X7_spanLiesIn n_X2_67 ⟨Nat.le_of_ble_eq_true rfl, Nat.le_of_ble_eq_true rfl⟩ (Nat.le_of_ble_eq_true rfl) (C_X7_spanLiesIn) ?_
        refine mJ_b2i (fun b_246 => ?_) (fun b_246 => ?_)
        · refine mJ_if_eq 275 dX2_find_249 rfl (fun c => absurd c (by decide)) (fun _ => ?_)
          refine mJ_aload_n dX2_find_252 rfl ?_
          refine mJ_get_21_1 dX2_find_253 f_X2_64 ?_
          refine mJ_iload dX2_find_256 rfl ?_
          refine mJ_aload_n dX2_find_258 rfl ?_
          refine mJ_iconst (v := 1) dX2_find_259 rfl ?_
          refine mJ_cV1i dX2_find_260 e_X5_get n_X2_36 ⟨Nat.le_of_ble_eq_true rfl, Nat.le_of_ble_eq_true rfl⟩ rfl rfl (Nat.le_of_ble_eq_true rfl) (C_X5_get) ?_
          refine mJ_iload dX2_find_263 rfl ?_
          refine mJ_cS4i dX2_find_265 e_X7_spanLiesIn n_X2_67 ⟨Nat.le_of_ble_eq_true rfl, Nat.le_of_ble_eq_true rfl⟩ (Nat.le_of_ble_eq_true rfl) (C_X7_spanLiesIn) ?_
          refine mJ_b2i (fun b_265 => ?_) (fun b_265 => ?_)
          · refine mJ_if_eq 275 dX2_find_268 rfl (fun c => absurd c (by decide)) (fun _ => ?_)
            refine mJ_iconst (v := 1) dX2_find_271 rfl ?_
            refine mJ_goto 276 dX2_find_272 rfl ?_
            refine mJ_put_21_5 dX2_find_276 p_X2_71 (Or.inr rfl) ?_
            exact mJ_vret dX2_find_279 rfl (rfl) (by simp_all [f_P, f_x, f_y, f_acr, f_arr, f_beg, f_gd, f_in, f_len, f_b0, f_mid, f_shf, iif_t, iif_f, b2i_t, b2i_f])
          · refine mJ_if_eq 275 dX2_find_268 rfl (fun _ => ?_) (fun c => absurd c (by decide))
            refine mJ_iconst (v := 0) dX2_find_275 rfl ?_
            refine mJ_put_21_5 dX2_find_276 p_X2_71 (Or.inl rfl) ?_
            exact mJ_vret dX2_find_279 rfl (rfl) (by simp_all [f_P, f_x, f_y, f_acr, f_arr, f_beg, f_gd, f_in, f_len, f_b0, f_mid, f_shf, iif_t, iif_f, b2i_t, b2i_f])
        · refine mJ_if_eq 275 dX2_find_249 rfl (fun _ => ?_) (fun c => absurd c (by decide))
          refine mJ_iconst (v := 0) dX2_find_275 rfl ?_
          refine mJ_put_21_5 dX2_find_276 p_X2_71 (Or.inl rfl) ?_
          exact mJ_vret dX2_find_279 rfl (rfl) (by simp_all [f_P, f_x, f_y, f_acr, f_arr, f_beg, f_gd, f_in, f_len, f_b0, f_mid, f_shf, iif_t, iif_f, b2i_t, b2i_f])
      · refine mJ_if_eq 196 dX2_find_175 rfl (fun _ => ?_) (fun c => absurd c (by decide))
        refine mJ_iload dX2_find_196 rfl ?_
        refine mJ_istore dX2_find_198 (Nat.le_of_ble_eq_true rfl) (ls2 := [_, _, _, _, _, _, _, _, _, _, _, _, _, _, _]) rfl ?_
        refine mJ_aload_n dX2_find_200 rfl ?_
        refine mJ_iload dX2_find_201 rfl ?_
        refine mJ_if_eq 211 dX2_find_203 rfl (fun c => absurd c (by decide)) (fun _ => ?_)
        refine mJ_iload dX2_find_206 rfl ?_
        refine mJ_goto 213 dX2_find_208 rfl ?_
        refine mJ_put_21_0 dX2_find_213 p_X2_61 ?_
        refine mJ_aload_n dX2_find_216 rfl ?_
        refine mJ_iload dX2_find_217 rfl ?_
        refine mJ_if_eq 227 dX2_find_219 rfl (fun c => absurd c (by decide)) (fun _ => ?_)
        refine mJ_iload dX2_find_222 rfl ?_
        refine mJ_goto 229 dX2_find_224 rfl ?_
        refine mJ_put_21_1 dX2_find_229 p_X2_64 ?_
        refine mJ_aload_n dX2_find_232 rfl ?_
        refine mJ_aload_n dX2_find_233 rfl ?_
        refine mJ_get_21_0 dX2_find_234 f_X2_61 ?_
        refine mJ_iload dX2_find_237 rfl ?_
        refine mJ_aload_n dX2_find_239 rfl ?_
        refine mJ_iconst (v := 0) dX2_find_240 rfl ?_
        refine mJ_cV1i dX2_find_241 e_X5_get n_X2_36 ⟨Nat.le_of_ble_eq_true rfl, Nat.le_of_ble_eq_true rfl⟩ rfl rfl (Nat.le_of_ble_eq_true rfl) (C_X5_get) ?_
        refine mJ_iload dX2_find_244 rfl ?_
        refine mJ_cS4i dX2_find_246 e_X7_spanLiesIn n_X2_67 ⟨Nat.le_of_ble_eq_true rfl, Nat.le_of_ble_eq_true rfl⟩ (Nat.le_of_ble_eq_true rfl) (C_X7_spanLiesIn) ?_
        refine mJ_b2i (fun b_246 => ?_) (fun b_246 => ?_)
        · refine mJ_if_eq 275 dX2_find_249 rfl (fun c => absurd c (by decide)) (fun _ => ?_)
          refine mJ_aload_n dX2_find_252 rfl ?_
          refine mJ_get_21_1 dX2_find_253 f_X2_64 ?_
          refine mJ_iload dX2_find_256 rfl ?_
          refine mJ_aload_n dX2_find_258 rfl ?_
          refine mJ_iconst (v := 1) dX2_find_259 rfl ?_
          refine mJ_cV1i dX2_find_260 e_X5_get n_X2_36 ⟨Nat.le_of_ble_eq_true rfl, Nat.le_of_ble_eq_true rfl⟩ rfl rfl (Nat.le_of_ble_eq_true rfl) (C_X5_get) ?_
          refine mJ_iload dX2_find_263 rfl ?_
          refine mJ_cS4i dX2_find_265 e_X7_spanLiesIn n_X2_67 ⟨Nat.le_of_ble_eq_true rfl, Nat.le_of_ble_eq_true rfl⟩ (Nat.le_of_ble_eq_true rfl) (C_X7_spanLiesIn) ?_
          refine mJ_b2i (fun b_265 => ?_) (fun b_265 => ?_)
          · refine mJ_if_eq 275 dX2_find_268 rfl (fun c => absurd c (by decide)) (fun _ => ?_)
            refine mJ_iconst (v := 1) dX2_find_271 rfl ?_
            refine mJ_goto 276 dX2_find_272 rfl ?_
            refine mJ_put_21_5 dX2_find_276 p_X2_71 (Or.inr rfl) ?_
            exact mJ_vret dX2_find_279 rfl (rfl) (by simp_all [f_P, f_x, f_y, f_acr, f_arr, f_beg, f_gd, f_in, f_len, f_b0, f_mid, f_shf, iif_t, iif_f, b2i_t, b2i_f])
          · refine mJ_if_eq 275 dX2_find_268 rfl (fun _ => ?_) (fun c => absurd c (by decide))
            refine mJ_iconst (v := 0) dX2_find_275 rfl ?_
            refine mJ_put_21_5 dX2_find_276 p_X2_71 (Or.inl rfl) ?_
            exact mJ_vret dX2_find_279 rfl (rfl) (by simp_all [f_P, f_x, f_y, f_acr, f_arr, f_beg, f_gd, f_in, f_len, f_b0, f_mid, f_shf, iif_t, iif_f, b2i_t, b2i_f])
        · refine mJ_if_eq 275 dX2_find_249 rfl (fun _ => ?_) (fun c => absurd c (by decide))
          refine mJ_iconst (v := 0) dX2_find_275 rfl ?_
          refine mJ_put_21_5 dX2_find_276 p_X2_71 (Or.inl rfl) ?_
          exact mJ_vret dX2_find_279 rfl (rfl) (by simp_all [f_P, f_x, f_y, f_acr, f_arr, f_beg, f_gd, f_in, f_len, f_b0, f_mid, f_shf, iif_t, iif_f, b2i_t, b2i_f])
  · refine mJ_istore dX2_find_20 (Nat.le_of_ble_eq_true rfl) (ls2 := [_, _, _, _, _, _, _, _, _, _, _, _, _, _, _]) rfl ?_
    refine mJ_iload dX2_find_22 rfl ?_
    refine mJ_if_eq 32 dX2_find_24 rfl (fun _ => ?_) (fun c => absurd c (by decide))
    refine mJ_iload dX2_find_32 rfl ?_
    refine mJ_istore dX2_find_34 (Nat.le_of_ble_eq_true rfl) (ls2 := [_, _, _, _, _, _, _, _, _, _, _, _, _, _, _]) rfl ?_
    refine mJ_aload_n dX2_find_36 rfl ?_
    refine mJ_iload_n dX2_find_37 rfl ?_
    refine mJ_iload dX2_find_38 rfl ?_
    refine mJ_cS3i dX2_find_40 e_X2_beginAlong n_X2_19 ⟨Nat.le_of_ble_eq_true rfl, Nat.le_of_ble_eq_true rfl⟩ (Nat.le_of_ble_eq_true rfl) (C_X2_beginAlong_0) ?_
    refine mJ_istore dX2_find_43 (Nat.le_of_ble_eq_true rfl) (ls2 := [_, _, _, _, _, _, _, _, _, _, _, _, _, _, _]) rfl ?_
    refine mJ_aload_n dX2_find_45 rfl ?_
    refine mJ_iload_n dX2_find_46 rfl ?_
    refine mJ_iload dX2_find_47 rfl ?_
    refine mJ_cS3i dX2_find_49 e_X2_middleAlong n_X2_25 ⟨Nat.le_of_ble_eq_true rfl, Nat.le_of_ble_eq_true rfl⟩ (Nat.le_of_ble_eq_true rfl) (C_X2_middleAlong_0) ?_
    refine mJ_istore dX2_find_52 (Nat.le_of_ble_eq_true rfl) (ls2 := [_, _, _, _, _, _, _, _, _, _, _, _, _, _, _]) rfl ?_
    refine mJ_aload_n dX2_find_54 rfl ?_
    refine mJ_iconst (v := 1) dX2_find_55 rfl ?_
    refine mJ_cV1i dX2_find_56 e_X5_setting n_X2_28 ⟨Nat.le_of_ble_eq_true rfl, Nat.le_of_ble_eq_true rfl⟩ rfl rfl (Nat.le_of_ble_eq_true rfl) (C_X5_setting) ?_
    refine mJ_istore dX2_find_59 (Nat.le_of_ble_eq_true rfl) (ls2 := [_, _, _, _, _, _, _, _, _, _, _, _, _, _, _]) rfl ?_
    refine mJ_aload_n dX2_find_61 rfl ?_
    refine mJ_iconst (v := 0) dX2_find_62 rfl ?_
    refine mJ_put_21_2 dX2_find_63 p_X2_32 ?_
    refine mJ_aload_n dX2_find_66 rfl ?_
    refine mJ_iload_n dX2_find_67 rfl ?_
    refine mJ_bipush (v := 6) dX2_find_68 rfl ?_
    refine mJ_cV2i dX2_find_70 e_X5_hintValue n_X2_9 ⟨Nat.le_of_ble_eq_true rfl, Nat.le_of_ble_eq_true rfl⟩ rfl rfl (Nat.le_of_ble_eq_true rfl) (C_X5_hintValue) ?_
    refine mJ_iconst (v := 1) dX2_find_73 rfl ?_
    refine mJ_icmp_ne 125 dX2_find_74 rfl (fun c_74 => ?_) (fun c_74 => ?_)
    · refine mJ_iload dX2_find_125 rfl ?_
      refine mJ_aload_n dX2_find_127 rfl ?_
      refine mJ_get_21_2 dX2_find_128 f_X2_32 ?_
      refine mJ_iadd dX2_find_131 ?_
      refine mJ_istore dX2_find_132 (Nat.le_of_ble_eq_true rfl) (ls2 := [_, _, _, _, _, _, _, _, _, _, _, _, _, _, _]) rfl ?_
      refine mJ_aload_n dX2_find_134 rfl ?_
      refine mJ_iload dX2_find_135 rfl ?_
      refine mJ_iload dX2_find_137 rfl ?_
      refine mJ_isub dX2_find_139 ?_
      refine mJ_put_21_3 dX2_find_140 p_X2_43 ?_
      refine mJ_aload_n dX2_find_143 rfl ?_
      refine mJ_aload_n dX2_find_144 rfl ?_
      refine mJ_get_21_3 dX2_find_145 f_X2_43 ?_
      refine mJ_iload dX2_find_148 rfl ?_
      refine mJ_iload dX2_find_150 rfl ?_
      refine mJ_cS3i dX2_find_152 e_X2_isGood n_X2_46 ⟨Nat.le_of_ble_eq_true rfl, Nat.le_of_ble_eq_true rfl⟩ (Nat.le_of_ble_eq_true rfl) (C_X2_isGood) ?_
      refine mJ_put_21_4 dX2_find_155 p_X2_50 (b2i_01 _) ?_
      refine mJ_aload_n dX2_find_158 rfl ?_
      refine mJ_aload_n dX2_find_159 rfl ?_
      refine mJ_iload_n dX2_find_160 rfl ?_
      refine mJ_iconst (v := 0) dX2_find_161 rfl ?_
      refine mJ_cV2i dX2_find_162 e_X5_hintValue n_X2_9 ⟨Nat.le_of_ble_eq_true rfl, Nat.le_of_ble_eq_true rfl⟩ rfl rfl (Nat.le_of_ble_eq_true rfl) (C_X5_hintValue) ?_
      refine mJ_iload_n dX2_find_165 rfl ?_
      refine mJ_cS3i dX2_find_166 e_X7_edgeBy n_X2_54 ⟨Nat.le_of_ble_eq_true rfl, Nat.le_of_ble_eq_true rfl⟩ (Nat.le_of_ble_eq_true rfl) (C_X7_edgeBy) ?_
      refine mJ_istore dX2_find_169 (Nat.le_of_ble_eq_true rfl) (ls2 := [_, _, _, _, _, _, _, _, _, _, _, _, _, _, _]) rfl ?_
      refine mJ_iload_n dX2_find_171 rfl ?_
      refine mJ_cS1i dX2_find_172 e_X7_isBefore n_X2_58 ⟨Nat.le_of_ble_eq_true rfl, Nat.le_of_ble_eq_true rfl⟩ (Nat.le_of_ble_eq_true rfl) (C_X7_isBefore) ?_
      refine mJ_b2i (fun b_172 => ?_) (fun b_172 => ?_)
      · refine mJ_if_eq 196 dX2_find_175 rfl (fun c => absurd c (by decide)) (fun _ => ?_)
        refine mJ_iload dX2_find_178 rfl ?_
        refine mJ_iload dX2_find_180 rfl ?_
        refine mJ_if_eq 190 dX2_find_182 rfl (fun _ => ?_) (fun c => absurd c (by decide))
        refine mJ_iload dX2_find_190 rfl ?_
        refine mJ_isub dX2_find_192 ?_
        refine mJ_goto 198 dX2_find_193 rfl ?_
        refine mJ_istore dX2_find_198 (Nat.le_of_ble_eq_true rfl) (ls2 := [_, _, _, _, _, _, _, _, _, _, _, _, _, _, _]) rfl ?_
        refine mJ_aload_n dX2_find_200 rfl ?_
        refine mJ_iload dX2_find_201 rfl ?_
        refine mJ_if_eq 211 dX2_find_203 rfl (fun _ => ?_) (fun c => absurd c (by decide))
        refine mJ_iload dX2_find_211 rfl ?_
        refine mJ_put_21_0 dX2_find_213 p_X2_61 ?_
        refine mJ_aload_n dX2_find_216 rfl ?_
        refine mJ_iload dX2_find_217 rfl ?_
        refine mJ_if_eq 227 dX2_find_219 rfl (fun _ => ?_) (fun c => absurd c (by decide))
        refine mJ_iload dX2_find_227 rfl ?_
        refine mJ_put_21_1 dX2_find_229 p_X2_64 ?_
        refine mJ_aload_n dX2_find_232 rfl ?_
        refine mJ_aload_n dX2_find_233 rfl ?_
        refine mJ_get_21_0 dX2_find_234 f_X2_61 ?_
        refine mJ_iload dX2_find_237 rfl ?_
        refine mJ_aload_n dX2_find_239 rfl ?_
        refine mJ_iconst (v := 0) dX2_find_240 rfl ?_
        refine mJ_cV1i dX2_find_241 e_X5_get n_X2_36 ⟨Nat.le_of_ble_eq_true rfl, Nat.le_of_ble_eq_true rfl⟩ rfl rfl (Nat.le_of_ble_eq_true rfl) (C_X5_get) ?_
        refine mJ_iload dX2_find_244 rfl ?_
        refine mJ_cS4i dX2_find_246 e_X7_spanLiesIn n_X2_67 ⟨Nat.le_of_ble_eq_true rfl, Nat.le_of_ble_eq_true rfl⟩ (Nat.le_of_ble_eq_true rfl) (C_X7_spanLiesIn) ?_
        refine mJ_b2i (fun b_246 => ?_) (fun b_246 => ?_)
        · refine mJ_if_eq 275 dX2_find_249 rfl (fun c => absurd c (by decide)) (fun _ => ?_)
          refine mJ_aload_n dX2_find_252 rfl ?_
          refine mJ_get_21_1 dX2_find_253 f_X2_64 ?_
          refine mJ_iload dX2_find_256 rfl ?_
          refine mJ_aload_n dX2_find_258 rfl ?_
          refine mJ_iconst (v := 1) dX2_find_259 rfl ?_
          refine mJ_cV1i dX2_find_260 e_X5_get n_X2_36 ⟨Nat.le_of_ble_eq_true rfl, Nat.le_of_ble_eq_true rfl⟩ rfl rfl (Nat.le_of_ble_eq_true rfl) (C_X5_get) ?_
          refine mJ_iload dX2_find_263 rfl ?_
          refine mJ_cS4i dX2_find_265 e_X7_spanLiesIn n_X2_67 ⟨Nat.le_of_ble_eq_true rfl, Nat.le_of_ble_eq_true rfl⟩ (Nat.le_of_ble_eq_true rfl) (C_X7_spanLiesIn) ?_
          refine mJ_b2i (fun b_265 => ?_) (fun b_265 => ?_)
          · refine mJ_if_eq 275 dX2_find_268 rfl (fun c => absurd c (by decide)) (fun _ => ?_)
            refine mJ_iconst (v := 1) dX2_find_271 rfl ?_
            refine mJ_goto 276 dX2_find_272 rfl ?_
            refine mJ_put_21_5 dX2_find_276 p_X2_71 (Or.inr rfl) ?_
            exact mJ_vret dX2_find_279 rfl (rfl) (by simp_all [f_P, f_x, f_y, f_acr, f_arr, f_beg, f_gd, f_in, f_len, f_b0, f_mid, f_shf, iif_t, iif_f, b2i_t, b2i_f])
          · refine mJ_if_eq 275 dX2_find_268 rfl (fun _ => ?_) (fun c => absurd c (by decide))
            refine mJ_iconst (v := 0) dX2_find_275 rfl ?_
            refine mJ_put_21_5 dX2_find_276 p_X2_71 (Or.inl rfl) ?_
            exact mJ_vret dX2_find_279 rfl (rfl) (by simp_all [f_P, f_x, f_y, f_acr, f_arr, f_beg, f_gd, f_in, f_len, f_b0, f_mid, f_shf, iif_t, iif_f, b2i_t, b2i_f])
        · refine mJ_if_eq 275 dX2_find_249 rfl (fun _ => ?_) (fun c => absurd c (by decide))
          refine mJ_iconst (v := 0) dX2_find_275 rfl ?_
          refine mJ_put_21_5 dX2_find_276 p_X2_71 (Or.inl rfl) ?_
          exact mJ_vret dX2_find_279 rfl (rfl) (by simp_all [f_P, f_x, f_y, f_acr, f_arr, f_beg, f_gd, f_in, f_len, f_b0, f_mid, f_shf, iif_t, iif_f, b2i_t, b2i_f])
      · refine mJ_if_eq 196 dX2_find_175 rfl (fun _ => ?_) (fun c => absurd c (by decide))
        refine mJ_iload dX2_find_196 rfl ?_
        refine mJ_istore dX2_find_198 (Nat.le_of_ble_eq_true rfl) (ls2 := [_, _, _, _, _, _, _, _, _, _, _, _, _, _, _]) rfl ?_
        refine mJ_aload_n dX2_find_200 rfl ?_
        refine mJ_iload dX2_find_201 rfl ?_
        refine mJ_if_eq 211 dX2_find_203 rfl (fun _ => ?_) (fun c => absurd c (by decide))
        refine mJ_iload dX2_find_211 rfl ?_
        refine mJ_put_21_0 dX2_find_213 p_X2_61 ?_
        refine mJ_aload_n dX2_find_216 rfl ?_
        refine mJ_iload dX2_find_217 rfl ?_
        refine mJ_if_eq 227 dX2_find_219 rfl (fun _ => ?_) (fun c => absurd c (by decide))
        refine mJ_iload dX2_find_227 rfl ?_
        refine mJ_put_21_1 dX2_find_229 p_X2_64 ?_
        refine mJ_aload_n dX2_find_232 rfl ?_
        refine mJ_aload_n dX2_find_233 rfl ?_
        refine mJ_get_21_0 dX2_find_234 f_X2_61 ?_
        refine mJ_iload dX2_find_237 rfl ?_
        refine mJ_aload_n dX2_find_239 rfl ?_
        refine mJ_iconst (v := 0) dX2_find_240 rfl ?_
        refine mJ_cV1i dX2_find_241 e_X5_get n_X2_36 ⟨Nat.le_of_ble_eq_true rfl, Nat.le_of_ble_eq_true rfl⟩ rfl rfl (Nat.le_of_ble_eq_true rfl) (C_X5_get) ?_
        refine mJ_iload dX2_find_244 rfl ?_
        refine mJ_cS4i dX2_find_246 e_X7_spanLiesIn n_X2_67 ⟨Nat.le_of_ble_eq_true rfl, Nat.le_of_ble_eq_true rfl⟩ (Nat.le_of_ble_eq_true rfl) (C_X7_spanLiesIn) ?_
        refine mJ_b2i (fun b_246 => ?_) (fun b_246 => ?_)
        · refine mJ_if_eq 275 dX2_find_249 rfl (fun c => absurd c (by decide)) (fun _ => ?_)
          refine mJ_aload_n dX2_find_252 rfl ?_
          refine mJ_get_21_1 dX2_find_253 f_X2_64 ?_
          refine mJ_iload dX2_find_256 rfl ?_
          refine mJ_aload_n dX2_find_258 rfl ?_
          refine mJ_iconst (v := 1) dX2_find_259 rfl ?_
          refine mJ_cV1i dX2_find_260 e_X5_get n_X2_36 ⟨Nat.le_of_ble_eq_true rfl, Nat.le_of_ble_eq_true rfl⟩ rfl rfl (Nat.le_of_ble_eq_true rfl) (C_X5_get) ?_
          refine mJ_iload dX2_find_263 rfl ?_
          refine mJ_cS4i dX2_find_265 e_X7_spanLiesIn n_X2_67 ⟨Nat.le_of_ble_eq_true rfl, Nat.le_of_ble_eq_true rfl⟩ (Nat.le_of_ble_eq_true rfl) (C_X7_spanLiesIn) ?_
          refine mJ_b2i (fun b_265 => ?_) (fun b_265 => ?_)
          · refine mJ_if_eq 275 dX2_find_268 rfl (fun c => absurd c (by decide)) (fun _ => ?_)
            refine mJ_iconst (v := 1) dX2_find_271 rfl ?_
            refine mJ_goto 276 dX2_find_272 rfl ?_
            refine mJ_put_21_5 dX2_find_276 p_X2_71 (Or.inr rfl) ?_
            exact mJ_vret dX2_find_279 rfl (rfl) (by simp_all [f_P, f_x, f_y, f_acr, f_arr, f_beg, f_gd, f_in, f_len, f_b0, f_mid, f_shf, iif_t, iif_f, b2i_t, b2i_f])
          · refine mJ_if_eq 275 dX2_find_268 rfl (fun _ => ?_) (fun c => absurd c (by decide))
            refine mJ_iconst (v := 0) dX2_find_275 rfl ?_
            refine mJ_put_21_5 dX2_find_276 p_X2_71 (Or.inl rfl) ?_
            exact mJ_vret dX2_find_279 rfl (rfl) (by simp_all [f_P, f_x, f_y, f_acr, f_arr, f_beg, f_gd, f_in, f_len, f_b0, f_mid, f_shf, iif_t, iif_f, b2i_t, b2i_f])
        · refine mJ_if_eq 275 dX2_find_249 rfl (fun _ => ?_) (fun c => absurd c (by decide))
          refine mJ_iconst (v := 0) dX2_find_275 rfl ?_
          refine mJ_put_21_5 dX2_find_276 p_X2_71 (Or.inl rfl) ?_
          exact mJ_vret dX2_find_279 rfl (rfl) (by simp_all [f_P, f_x, f_y, f_acr, f_arr, f_beg, f_gd, f_in, f_len, f_b0, f_mid, f_shf, iif_t, iif_f, b2i_t, b2i_f])
    · refine mJ_aload_n dX2_find_77 rfl ?_
      refine mJ_iload dX2_find_78 rfl ?_
      refine mJ_if_eq 87 dX2_find_80 rfl (fun _ => ?_) (fun c => absurd c (by decide))
      refine mJ_iconst (v := 1) dX2_find_87 rfl ?_
      refine mJ_cV1i dX2_find_88 e_X5_get n_X2_36 ⟨Nat.le_of_ble_eq_true rfl, Nat.le_of_ble_eq_true rfl⟩ rfl rfl (Nat.le_of_ble_eq_true rfl) (C_X5_get) ?_
      refine mJ_istore dX2_find_91 (Nat.le_of_ble_eq_true rfl) (ls2 := [_, _, _, _, _, _, _, _, _, _, _, _, _, _, _]) rfl ?_
      refine mJ_aload_n dX2_find_93 rfl ?_
      refine mJ_iload dX2_find_94 rfl ?_
      refine mJ_iload dX2_find_96 rfl ?_
      refine mJ_if_eq 106 dX2_find_98 rfl (fun _ => ?_) (fun c => absurd c (by decide))
      refine mJ_iload dX2_find_106 rfl ?_
      refine mJ_iload dX2_find_108 rfl ?_
      refine mJ_iload dX2_find_110 rfl ?_
      refine mJ_iload dX2_find_112 rfl ?_
      refine mJ_iload dX2_find_114 rfl ?_
      refine mJ_isub dX2_find_116 ?_
      refine mJ_iload dX2_find_117 rfl ?_
      refine mJ_cS6i dX2_find_119 e_X2_shiftInto n_X2_39 ⟨Nat.le_of_ble_eq_true rfl, Nat.le_of_ble_eq_true rfl⟩ (Nat.le_of_ble_eq_true rfl) (C_X2_shiftInto) ?_
      refine mJ_put_21_2 dX2_find_122 p_X2_32 ?_
      refine mJ_iload dX2_find_125 rfl ?_
      refine mJ_aload_n dX2_find_127 rfl ?_
      refine mJ_get_21_2 dX2_find_128 f_X2_32 ?_
      refine mJ_iadd dX2_find_131 ?_
      refine mJ_istore dX2_find_132 (Nat.le_of_ble_eq_true rfl) (ls2 := [_, _, _, _, _, _, _, _, _, _, _, _, _, _, _]) rfl ?_
      refine mJ_aload_n dX2_find_134 rfl ?_
      refine mJ_iload dX2_find_135 rfl ?_
      refine mJ_iload dX2_find_137 rfl ?_
      refine mJ_isub dX2_find_139 ?_
      refine mJ_put_21_3 dX2_find_140 p_X2_43 ?_
      refine mJ_aload_n dX2_find_143 rfl ?_
      refine mJ_aload_n dX2_find_144 rfl ?_
      refine mJ_get_21_3 dX2_find_145 f_X2_43 ?_
      refine mJ_iload dX2_find_148 rfl ?_
      refine mJ_iload dX2_find_150 rfl ?_
      refine mJ_cS3i dX2_find_152 e_X2_isGood n_X2_46 ⟨Nat.le_of_ble_eq_true rfl, Nat.le_of_ble_eq_true rfl⟩ (Nat.le_of_ble_eq_true rfl) (C_X2_isGood) ?_
      refine mJ_put_21_4 dX2_find_155 p_X2_50 (b2i_01 _) ?_
      refine mJ_aload_n dX2_find_158 rfl ?_
      refine mJ_aload_n dX2_find_159 rfl ?_
      refine mJ_iload_n dX2_find_160 rfl ?_
      refine mJ_iconst (v := 0) dX2_find_161 rfl ?_
      refine mJ_cV2i dX2_find_162 e_X5_hintValue n_X2_9 ⟨Nat.le_of_ble_eq_true rfl, Nat.le_of_ble_eq_true rfl⟩ rfl rfl (Nat.le_of_ble_eq_true rfl) (C_X5_hintValue) ?_
      refine mJ_iload_n dX2_find_165 rfl ?_
      refine mJ_cS3i dX2_find_166 e_X7_edgeBy n_X2_54 ⟨Nat.le_of_ble_eq_true rfl, Nat.le_of_ble_eq_true rfl⟩ (Nat.le_of_ble_eq_true rfl) (C_X7_edgeBy) ?_
      refine mJ_istore dX2_find_169 (Nat.le_of_ble_eq_true rfl) (ls2 := [_, _, _, _, _, _, _, _, _, _, _, _, _, _, _]) rfl ?_
      refine mJ_iload_n dX2_find_171 rfl ?_
      refine mJ_cS1i dX2_find_172 e_X7_isBefore n_X2_58 ⟨Nat.le_of_ble_eq_true rfl, Nat.le_of_ble_eq_true rfl⟩ (Nat.le_of_ble_eq_true rfl) (C_X7_isBefore) ?_
      refine mJ_b2i (fun b_172 => ?_) (fun b_172 => ?_)
      · refine mJ_if_eq 196 dX2_find_175 rfl (fun c => absurd c (by decide)) (fun _ => ?_)
        refine mJ_iload dX2_find_178 rfl ?_
        refine mJ_iload dX2_find_180 rfl ?_
        refine mJ_if_eq 190 dX2_find_182 rfl (fun _ => ?_) (fun c => absurd c (by decide))
        refine mJ_iload dX2_find_190 rfl ?_
        refine mJ_isub dX2_find_192 ?_
        refine mJ_goto 198 dX2_find_193 rfl ?_
        refine mJ_istore dX2_find_198 (Nat.le_of_ble_eq_true rfl) (ls2 := [_, _, _, _, _, _, _, _, _, _, _, _, _, _, _]) rfl ?_
        refine mJ_aload_n dX2_find_200 rfl ?_
        refine mJ_iload dX2_find_201 rfl ?_
        refine mJ_if_eq 211 dX2_find_203 rfl (fun _ => ?_) (fun c => absurd c (by decide))
        refine mJ_iload dX2_find_211 rfl ?_
        refine mJ_put_21_0 dX2_find_213 p_X2_61 ?_
        refine mJ_aload_n dX2_find_216 rfl ?_
        refine mJ_iload dX2_find_217 rfl ?_
        refine mJ_if_eq 227 dX2_find_219 rfl (fun _ => ?_) (fun c => absurd c (by decide))
        refine mJ_iload dX2_find_227 rfl ?_
        refine mJ_put_21_1 dX2_find_229 p_X2_64 ?_
        refine mJ_aload_n dX2_find_232 rfl ?_
        refine mJ_aload_n dX2_find_233 rfl ?_
        refine mJ_get_21_0 dX2_find_234 f_X2_61 ?_
        refine mJ_iload dX2_find_237 rfl ?_
        refine mJ_aload_n dX2_find_239 rfl ?_
        refine mJ_iconst (v := 0) dX2_find_240 rfl ?_
        refine mJ_cV1i dX2_find_241 e_X5_get n_X2_36 ⟨Nat.le_of_ble_eq_true rfl, Nat.le_of_ble_eq_true rfl⟩ rfl rfl (Nat.le_of_ble_eq_true rfl) (C_X5_get) ?_
        refine mJ_iload dX2_find_244 rfl ?_
        refine mJ_cS4i dX2_find_246 e_X7_spanLiesIn n_X2_67 ⟨Nat.le_of_ble_eq_true rfl, Nat.le_of_ble_eq_true rfl⟩ (Nat.le_of_ble_eq_true rfl) (C_X7_spanLiesIn) ?_
        refine mJ_b2i (fun b_246 => ?_) (fun b_246 => ?_)
        · refine mJ_if_eq 275 dX2_find_249 rfl (fun c => absurd c (by decide)) (fun _ => ?_)
          refine mJ_aload_n dX2_find_252 rfl ?_
          refine mJ_get_21_1 dX2_find_253 f_X2_64 ?_
          refine mJ_iload dX2_find_256 rfl ?_
          refine mJ_aload_n dX2_find_258 rfl ?_
          refine mJ_iconst (v := 1) dX2_find_259 rfl ?_
          refine mJ_cV1i dX2_find_260 e_X5_get n_X2_36 ⟨Nat.le_of_ble_eq_true rfl, Nat.le_of_ble_eq_true rfl⟩ rfl rfl (Nat.le_of_ble_eq_true rfl) (C_X5_get) ?_
          refine mJ_iload dX2_find_263 rfl ?_
          refine mJ_cS4i dX2_find_265 e_X7_spanLiesIn n_X2_67 ⟨Nat.le_of_ble_eq_true rfl, Nat.le_of_ble_eq_true rfl⟩ (Nat.le_of_ble_eq_true rfl) (C_X7_spanLiesIn) ?_
          refine mJ_b2i (fun b_265 => ?_) (fun b_265 => ?_)
          · refine mJ_if_eq 275 dX2_find_268 rfl (fun c => absurd c (by decide)) (fun _ => ?_)
            refine mJ_iconst (v := 1) dX2_find_271 rfl ?_
            refine mJ_goto 276 dX2_find_272 rfl ?_
            refine mJ_put_21_5 dX2_find_276 p_X2_71 (Or.inr rfl) ?_
            exact mJ_vret dX2_find_279 rfl (rfl) (by simp_all [f_P, f_x, f_y, f_acr, f_arr, f_beg, f_gd, f_in, f_len, f_b0, f_mid, f_shf, iif_t, iif_f, b2i_t, b2i_f])
          · refine mJ_if_eq 275 dX2_find_268 rfl (fun _ => ?_) (fun c => absurd c (by decide))
            refine mJ_iconst (v := 0) dX2_find_275 rfl ?_
            refine mJ_put_21_5 dX2_find_276 p_X2_71 (Or.inl rfl) ?_
            exact mJ_vret dX2_find_279 rfl (rfl) (by simp_all [f_P, f_x, f_y, f_acr, f_arr, f_beg, f_gd, f_in, f_len, f_b0, f_mid, f_shf, iif_t, iif_f, b2i_t, b2i_f])
        · refine mJ_if_eq 275 dX2_find_249 rfl (fun _ => ?_) (fun c => absurd c (by decide))
          refine mJ_iconst (v := 0) dX2_find_275 rfl ?_
          refine mJ_put_21_5 dX2_find_276 p_X2_71 (Or.inl rfl) ?_
          exact mJ_vret dX2_find_279 rfl (rfl) (by simp_all [f_P, f_x, f_y, f_acr, f_arr, f_beg, f_gd, f_in, f_len, f_b0, f_mid, f_shf, iif_t, iif_f, b2i_t, b2i_f])
      · refine mJ_if_eq 196 dX2_find_175 rfl (fun _ => ?_) (fun c => absurd c (by decide))
        refine mJ_iload dX2_find_196 rfl ?_
        refine mJ_istore dX2_find_198 (Nat.le_of_ble_eq_true rfl) (ls2 := [_, _, _, _, _, _, _, _, _, _, _, _, _, _, _]) rfl ?_
        refine mJ_aload_n dX2_find_200 rfl ?_
        refine mJ_iload dX2_find_201 rfl ?_
        refine mJ_if_eq 211 dX2_find_203 rfl (fun _ => ?_) (fun c => absurd c (by decide))
        refine mJ_iload dX2_find_211 rfl ?_
        refine mJ_put_21_0 dX2_find_213 p_X2_61 ?_
        refine mJ_aload_n dX2_find_216 rfl ?_
        refine mJ_iload dX2_find_217 rfl ?_
        refine mJ_if_eq 227 dX2_find_219 rfl (fun _ => ?_) (fun c => absurd c (by decide))
        refine mJ_iload dX2_find_227 rfl ?_
        refine mJ_put_21_1 dX2_find_229 p_X2_64 ?_
        refine mJ_aload_n dX2_find_232 rfl ?_
        refine mJ_aload_n dX2_find_233 rfl ?_
        refine mJ_get_21_0 dX2_find_234 f_X2_61 ?_
        refine mJ_iload dX2_find_237 rfl ?_
        refine mJ_aload_n dX2_find_239 rfl ?_
        refine mJ_iconst (v := 0) dX2_find_240 rfl ?_
        refine mJ_cV1i dX2_find_241 e_X5_get n_X2_36 ⟨Nat.le_of_ble_eq_true rfl, Nat.le_of_ble_eq_true rfl⟩ rfl rfl (Nat.le_of_ble_eq_true rfl) (C_X5_get) ?_
        refine mJ_iload dX2_find_244 rfl ?_
        refine mJ_cS4i dX2_find_246 e_X7_spanLiesIn n_X2_67 ⟨Nat.le_of_ble_eq_true rfl, Nat.le_of_ble_eq_true rfl⟩ (Nat.le_of_ble_eq_true rfl) (C_X7_spanLiesIn) ?_
        refine mJ_b2i (fun b_246 => ?_) (fun b_246 => ?_)
        · refine mJ_if_eq 275 dX2_find_249 rfl (fun c => absurd c (by decide)) (fun _ => ?_)
          refine mJ_aload_n dX2_find_252 rfl ?_
          refine mJ_get_21_1 dX2_find_253 f_X2_64 ?_
          refine mJ_iload dX2_find_256 rfl ?_
          refine mJ_aload_n dX2_find_258 rfl ?_
          refine mJ_iconst (v := 1) dX2_find_259 rfl ?_
          refine mJ_cV1i dX2_find_260 e_X5_get n_X2_36 ⟨Nat.le_of_ble_eq_true rfl, Nat.le_of_ble_eq_true rfl⟩ rfl rfl (Nat.le_of_ble_eq_true rfl) (C_X5_get) ?_
          refine mJ_iload dX2_find_263 rfl ?_
          refine mJ_cS4i dX2_find_265 e_X7_spanLiesIn n_X2_67 ⟨Nat.le_of_ble_eq_true rfl, Nat.le_of_ble_eq_true rfl⟩ (Nat.le_of_ble_eq_true rfl) (C_X7_spanLiesIn) ?_
          refine mJ_b2i (fun b_265 => ?_) (fun b_265 => ?_)
          · refine mJ_if_eq 275 dX2_find_268 rfl (fun c => absurd c (by decide)) (fun _ => ?_)
            refine mJ_iconst (v := 1) dX2_find_271 rfl ?_
            refine mJ_goto 276 dX2_find_272 rfl ?_
            refine mJ_put_21_5 dX2_find_276 p_X2_71 (Or.inr rfl) ?_
            exact mJ_vret dX2_find_279 rfl (rfl) (by simp_all [f_P, f_x, f_y, f_acr, f_arr, f_beg, f_gd, f_in, f_len, f_b0, f_mid, f_shf, iif_t, iif_f, b2i_t, b2i_f])
          · refine mJ_if_eq 275 dX2_find_268 rfl (fun _ => ?_) (fun c => absurd c (by decide))
            refine mJ_iconst (v := 0) dX2_find_275 rfl ?_
            refine mJ_put_21_5 dX2_find_276 p_X2_71 (Or.inl rfl) ?_
            exact mJ_vret dX2_find_279 rfl (rfl) (by simp_all [f_P, f_x, f_y, f_acr, f_arr, f_beg, f_gd, f_in, f_len, f_b0, f_mid, f_shf, iif_t, iif_f, b2i_t, b2i_f])
        · refine mJ_if_eq 275 dX2_find_249 rfl (fun _ => ?_) (fun c => absurd c (by decide))
          refine mJ_iconst (v := 0) dX2_find_275 rfl ?_
          refine mJ_put_21_5 dX2_find_276 p_X2_71 (Or.inl rfl) ?_
          exact mJ_vret dX2_find_279 rfl (rfl) (by simp_all [f_P, f_x, f_y, f_acr, f_arr, f_beg, f_gd, f_in, f_len, f_b0, f_mid, f_shf, iif_t, iif_f, b2i_t, b2i_f])
set_option maxHeartbeats 4000000 in
set_option maxRecDepth 100000 in
theorem C_X2_find_28 {C : aF} {Hs : tH} {Sw : tS} {T1 : tT} {P1 : tP} {Od : tO} {T2 : tT} {P2 : tP} {h s vh vw : Int32} : mCt k_X2_find [.ref 28, .ref 1, .int h, .int s, .int vw, .int vh] (cH C Hs Sw T1 P1 Od T2 P2) none (cH C Hs Sw T1 P1 Od T2 (f_P C h s vw vh)) := by
  obtain ⟨y1, y2, y3, y4, y5, y6⟩ := P2
  refine mCt_intro (plainFor_of_name rfl) (Nat.le_of_ble_eq_true rfl) (m_all rfl) (ls := [_, _, _, _, _, _, _, _, _, _, _, _, _, _, _]) rfl ?_
  refine mJ_aload_n dX2_find_0 rfl ?_
  refine mJ_iload_n dX2_find_1 rfl ?_
  refine mJ_iconst (v := 1) dX2_find_2 rfl ?_
  refine mJ_cV2i dX2_find_3 e_X5_hintValue n_X2_9 ⟨Nat.le_of_ble_eq_true rfl, Nat.le_of_ble_eq_true rfl⟩ rfl rfl (Nat.le_of_ble_eq_true rfl) (C_X5_hintValue) ?_
  refine mJ_istore dX2_find_6 (Nat.le_of_ble_eq_true rfl) (ls2 := [_, _, _, _, _, _, _, _, _, _, _, _, _, _, _]) rfl ?_
  refine mJ_aload_n dX2_find_8 rfl ?_
  refine mJ_iload_n dX2_find_9 rfl ?_
  refine mJ_iconst (v := 2) dX2_find_10 rfl ?_
  refine mJ_cV2i dX2_find_11 e_X5_hintValue n_X2_9 ⟨Nat.le_of_ble_eq_true rfl, Nat.le_of_ble_eq_true rfl⟩ rfl rfl (Nat.le_of_ble_eq_true rfl) (C_X5_hintValue) ?_
  refine mJ_istore dX2_find_14 (Nat.le_of_ble_eq_true rfl) (ls2 := [_, _, _, _, _, _, _, _, _, _, _, _, _, _, _]) rfl ?_
  refine mJ_iload_n dX2_find_16 rfl ?_
  refine mJ_cS1i dX2_find_17 e_X7_isLevel n_X2_15 ⟨Nat.le_of_ble_eq_true rfl, Nat.le_of_ble_eq_true rfl⟩ (Nat.le_of_ble_eq_true rfl) (C_X7_isLevel) ?_
  refine mJ_b2i (fun b_17 => ?_) (fun b_17 => ?_)
  · refine mJ_istore dX2_find_20 (Nat.le_of_ble_eq_true rfl) (ls2 := [_, _, _, _, _, _, _, _, _, _, _, _, _, _, _]) rfl ?_
    refine mJ_iload dX2_find_22 rfl ?_
    refine mJ_if_eq 32 dX2_find_24 rfl (fun c => absurd c (by decide)) (fun _ => ?_)
    refine mJ_iload dX2_find_27 rfl ?_
    refine mJ_goto 34 dX2_find_29 rfl ?_
    refine mJ_istore dX2_find_34 (Nat.le_of_ble_eq_true rfl) (ls2 := [_, _, _, _, _, _, _, _, _, _, _, _, _, _, _]) rfl ?_
    refine mJ_aload_n dX2_find_36 rfl ?_
    refine mJ_iload_n dX2_find_37 rfl ?_
    refine mJ_iload dX2_find_38 rfl ?_
    refine mJ_cS3i dX2_find_40 e_X2_beginAlong n_X2_19 ⟨Nat.le_of_ble_eq_true rfl, Nat.le_of_ble_eq_true rfl⟩ (Nat.le_of_ble_eq_true rfl) (C_X2_beginAlong_1) ?_
    refine mJ_istore dX2_find_43 (Nat.le_of_ble_eq_true rfl) (ls2 := [_, _, _, _, _, _, _, _, _, _, _, _, _, _, _]) rfl ?_
    refine mJ_aload_n dX2_find_45 rfl ?_
    refine mJ_iload_n dX2_find_46 rfl ?_
    refine mJ_iload dX2_find_47 rfl ?_
    refine mJ_cS3i dX2_find_49 e_X2_middleAlong n_X2_25 ⟨Nat.le_of_ble_eq_true rfl, Nat.le_of_ble_eq_true rfl⟩ (Nat.le_of_ble_eq_true rfl) (C_X2_middleAlong_1) ?_
    refine mJ_istore dX2_find_52 (Nat.le_of_ble_eq_true rfl) (ls2 := [_, _, _, _, _, _, _, _, _, _, _, _, _, _, _]) rfl ?_
    refine mJ_aload_n dX2_find_54 rfl ?_
    refine mJ_iconst (v := 1) dX2_find_55 rfl ?_
    refine mJ_cV1i dX2_find_56 e_X5_setting n_X2_28 ⟨Nat.le_of_ble_eq_true rfl, Nat.le_of_ble_eq_true rfl⟩ rfl rfl (Nat.le_of_ble_eq_true rfl) (C_X5_setting) ?_
    refine mJ_istore dX2_find_59 (Nat.le_of_ble_eq_true rfl) (ls2 := [_, _, _, _, _, _, _, _, _, _, _, _, _, _, _]) rfl ?_
    refine mJ_aload_n dX2_find_61 rfl ?_
    refine mJ_iconst (v := 0) dX2_find_62 rfl ?_
    refine mJ_put_28_2 dX2_find_63 p_X2_32 ?_
    refine mJ_aload_n dX2_find_66 rfl ?_
    refine mJ_iload_n dX2_find_67 rfl ?_
    refine mJ_bipush (v := 6) dX2_find_68 rfl ?_
    refine mJ_cV2i dX2_find_70 e_X5_hintValue n_X2_9 ⟨Nat.le_of_ble_eq_true rfl, Nat.le_of_ble_eq_true rfl⟩ rfl rfl (Nat.le_of_ble_eq_true rfl) (C_X5_hintValue) ?_
    refine mJ_iconst (v := 1) dX2_find_73 rfl ?_
    refine mJ_icmp_ne 125 dX2_find_74 rfl (fun c_74 => ?_) (fun c_74 => ?_)
    · refine mJ_iload dX2_find_125 rfl ?_
      refine mJ_aload_n dX2_find_127 rfl ?_
      refine mJ_get_28_2 dX2_find_128 f_X2_32 ?_
      refine mJ_iadd dX2_find_131 ?_
      refine mJ_istore dX2_find_132 (Nat.le_of_ble_eq_true rfl) (ls2 := [_, _, _, _, _, _, _, _, _, _, _, _, _, _, _]) rfl ?_
      refine mJ_aload_n dX2_find_134 rfl ?_
      refine mJ_iload dX2_find_135 rfl ?_
      refine mJ_iload dX2_find_137 rfl ?_
      refine mJ_isub dX2_find_139 ?_
      refine mJ_put_28_3 dX2_find_140 p_X2_43 ?_
      refine mJ_aload_n dX2_find_143 rfl ?_
      refine mJ_aload_n dX2_find_144 rfl ?_
      refine mJ_get_28_3 dX2_find_145 f_X2_43 ?_
      refine mJ_iload dX2_find_148 rfl ?_
      refine mJ_iload dX2_find_150 rfl ?_
      refine mJ_cS3i dX2_find_152 e_X2_isGood n_X2_46 ⟨Nat.le_of_ble_eq_true rfl, Nat.le_of_ble_eq_true rfl⟩ (Nat.le_of_ble_eq_true rfl) (C_X2_isGood) ?_
      refine mJ_put_28_4 dX2_find_155 p_X2_50 (b2i_01 _) ?_
      refine mJ_aload_n dX2_find_158 rfl ?_
      refine mJ_aload_n dX2_find_159 rfl ?_
      refine mJ_iload_n dX2_find_160 rfl ?_
      refine mJ_iconst (v := 0) dX2_find_161 rfl ?_
      refine mJ_cV2i dX2_find_162 e_X5_hintValue n_X2_9 ⟨Nat.le_of_ble_eq_true rfl, Nat.le_of_ble_eq_true rfl⟩ rfl rfl (Nat.le_of_ble_eq_true rfl) (C_X5_hintValue) ?_
      refine mJ_iload_n dX2_find_165 rfl ?_
      refine mJ_cS3i dX2_find_166 e_X7_edgeBy n_X2_54 ⟨Nat.le_of_ble_eq_true rfl, Nat.le_of_ble_eq_true rfl⟩ (Nat.le_of_ble_eq_true rfl) (C_X7_edgeBy) ?_
      refine mJ_istore dX2_find_169 (Nat.le_of_ble_eq_true rfl) (ls2 := [_, _, _, _, _, _, _, _, _, _, _, _, _, _, _]) rfl ?_
      refine mJ_iload_n dX2_find_171 rfl ?_
      refine mJ_cS1i dX2_find_172 e_X7_isBefore n_X2_58 ⟨Nat.le_of_ble_eq_true rfl, Nat.le_of_ble_eq_true rfl⟩ (Nat.le_of_ble_eq_true rfl) (C_X7_isBefore) ?_
      refine mJ_b2i (fun b_172 => ?_) (fun b_172 => ?_)
      · refine mJ_if_eq 196 dX2_find_175 rfl (fun c => absurd c (by decide)) (fun _ => ?_)
        refine mJ_iload dX2_find_178 rfl ?_
        refine mJ_iload dX2_find_180 rfl ?_
        refine mJ_if_eq 190 dX2_find_182 rfl (fun c => absurd c (by decide)) (fun _ => ?_)
        refine mJ_iload dX2_find_185 rfl ?_
        refine mJ_goto 192 dX2_find_187 rfl ?_
        refine mJ_isub dX2_find_192 ?_
        refine mJ_goto 198 dX2_find_193 rfl ?_
        refine mJ_istore dX2_find_198 (Nat.le_of_ble_eq_true rfl) (ls2 := [_, _, _, _, _, _, _, _, _, _, _, _, _, _, _]) rfl ?_
        refine mJ_aload_n dX2_find_200 rfl ?_
        refine mJ_iload dX2_find_201 rfl ?_
        refine mJ_if_eq 211 dX2_find_203 rfl (fun c => absurd c (by decide)) (fun _ => ?_)
        refine mJ_iload dX2_find_206 rfl ?_
        refine mJ_goto 213 dX2_find_208 rfl ?_
        refine mJ_put_28_0 dX2_find_213 p_X2_61 ?_
        refine mJ_aload_n dX2_find_216 rfl ?_
        refine mJ_iload dX2_find_217 rfl ?_
        refine mJ_if_eq 227 dX2_find_219 rfl (fun c => absurd c (by decide)) (fun _ => ?_)
        refine mJ_iload dX2_find_222 rfl ?_
        refine mJ_goto 229 dX2_find_224 rfl ?_
        refine mJ_put_28_1 dX2_find_229 p_X2_64 ?_
        refine mJ_aload_n dX2_find_232 rfl ?_
        refine mJ_aload_n dX2_find_233 rfl ?_
        refine mJ_get_28_0 dX2_find_234 f_X2_61 ?_
        refine mJ_iload dX2_find_237 rfl ?_
        refine mJ_aload_n dX2_find_239 rfl ?_
        refine mJ_iconst (v := 0) dX2_find_240 rfl ?_
        refine mJ_cV1i dX2_find_241 e_X5_get n_X2_36 ⟨Nat.le_of_ble_eq_true rfl, Nat.le_of_ble_eq_true rfl⟩ rfl rfl (Nat.le_of_ble_eq_true rfl) (C_X5_get) ?_
        refine mJ_iload dX2_find_244 rfl ?_
        refine mJ_cS4i dX2_find_246 e_X7_spanLiesIn n_X2_67 ⟨Nat.le_of_ble_eq_true rfl, Nat.le_of_ble_eq_true rfl⟩ (Nat.le_of_ble_eq_true rfl) (C_X7_spanLiesIn) ?_
        refine mJ_b2i (fun b_246 => ?_) (fun b_246 => ?_)
        · refine mJ_if_eq 275 dX2_find_249 rfl (fun c => absurd c (by decide)) (fun _ => ?_)
          refine mJ_aload_n dX2_find_252 rfl ?_
          refine mJ_get_28_1 dX2_find_253 f_X2_64 ?_
          refine mJ_iload dX2_find_256 rfl ?_
          refine mJ_aload_n dX2_find_258 rfl ?_
          refine mJ_iconst (v := 1) dX2_find_259 rfl ?_
          refine mJ_cV1i dX2_find_260 e_X5_get n_X2_36 ⟨Nat.le_of_ble_eq_true rfl, Nat.le_of_ble_eq_true rfl⟩ rfl rfl (Nat.le_of_ble_eq_true rfl) (C_X5_get) ?_
          refine mJ_iload dX2_find_263 rfl ?_
          refine mJ_cS4i dX2_find_265 e_X7_spanLiesIn n_X2_67 ⟨Nat.le_of_ble_eq_true rfl, Nat.le_of_ble_eq_true rfl⟩ (Nat.le_of_ble_eq_true rfl) (C_X7_spanLiesIn) ?_
          refine mJ_b2i (fun b_265 => ?_) (fun b_265 => ?_)
          · refine mJ_if_eq 275 dX2_find_268 rfl (fun c => absurd c (by decide)) (fun _ => ?_)
            refine mJ_iconst (v := 1) dX2_find_271 rfl ?_
            refine mJ_goto 276 dX2_find_272 rfl ?_
            refine mJ_put_28_5 dX2_find_276 p_X2_71 (Or.inr rfl) ?_
            exact mJ_vret dX2_find_279 rfl (rfl) (by simp_all [f_P, f_x, f_y, f_acr, f_arr, f_beg, f_gd, f_in, f_len, f_b0, f_mid, f_shf, iif_t, iif_f, b2i_t, b2i_f])
          · refine mJ_if_eq 275 dX2_find_268 rfl (fun _ => ?_) (fun c => absurd c (by decide))
            refine mJ_iconst (v := 0) dX2_find_275 rfl ?_
            refine mJ_put_28_5 dX2_find_276 p_X2_71 (Or.inl rfl) ?_
            exact mJ_vret dX2_find_279 rfl (rfl) (by simp_all [f_P, f_x, f_y, f_acr, f_arr, f_beg, f_gd, f_in, f_len, f_b0, f_mid, f_shf, iif_t, iif_f, b2i_t, b2i_f])
        · refine mJ_if_eq 275 dX2_find_249 rfl (fun _ => ?_) (fun c => absurd c (by decide))
          refine mJ_iconst (v := 0) dX2_find_275 rfl ?_
          refine mJ_put_28_5 dX2_find_276 p_X2_71 (Or.inl rfl) ?_
          exact mJ_vret dX2_find_279 rfl (rfl) (by simp_all [f_P, f_x, f_y, f_acr, f_arr, f_beg, f_gd, f_in, f_len, f_b0, f_mid, f_shf, iif_t, iif_f, b2i_t, b2i_f])
      · refine mJ_if_eq 196 dX2_find_175 rfl (fun _ => ?_) (fun c => absurd c (by decide))
        refine mJ_iload dX2_find_196 rfl ?_
        refine mJ_istore dX2_find_198 (Nat.le_of_ble_eq_true rfl) (ls2 := [_, _, _, _, _, _, _, _, _, _, _, _, _, _, _]) rfl ?_
        refine mJ_aload_n dX2_find_200 rfl ?_
        refine mJ_iload dX2_find_201 rfl ?_
        refine mJ_if_eq 211 dX2_find_203 rfl (fun c => absurd c (by decide)) (fun _ => ?_)
        refine mJ_iload dX2_find_206 rfl ?_
        refine mJ_goto 213 dX2_find_208 rfl ?_
        refine mJ_put_28_0 dX2_find_213 p_X2_61 ?_
        refine mJ_aload_n dX2_find_216 rfl ?_
        refine mJ_iload dX2_find_217 rfl ?_
        refine mJ_if_eq 227 dX2_find_219 rfl (fun c => absurd c (by decide)) (fun _ => ?_)
        refine mJ_iload dX2_find_222 rfl ?_
        refine mJ_goto 229 dX2_find_224 rfl ?_
        refine mJ_put_28_1 dX2_find_229 p_X2_64 ?_
        refine mJ_aload_n dX2_find_232 rfl ?_
        refine mJ_aload_n dX2_find_233 rfl ?_
        refine mJ_get_28_0 dX2_find_234 f_X2_61 ?_
        refine mJ_iload dX2_find_237 rfl ?_
        refine mJ_aload_n dX2_find_239 rfl ?_
        refine mJ_iconst (v := 0) dX2_find_240 rfl ?_
        refine mJ_cV1i dX2_find_241 e_X5_get n_X2_36 ⟨Nat.le_of_ble_eq_true rfl, Nat.le_of_ble_eq_true rfl⟩ rfl rfl (Nat.le_of_ble_eq_true rfl) (C_X5_get) ?_
        refine mJ_iload dX2_find_244 rfl ?_
        refine mJ_cS4i dX2_find_246 e_X7_spanLiesIn n_X2_67 ⟨Nat.le_of_ble_eq_true rfl, Nat.le_of_ble_eq_true rfl⟩ (Nat.le_of_ble_eq_true rfl) (C_X7_spanLiesIn) ?_
        refine mJ_b2i (fun b_246 => ?_) (fun b_246 => ?_)
        · refine mJ_if_eq 275 dX2_find_249 rfl (fun c => absurd c (by decide)) (fun _ => ?_)
          refine mJ_aload_n dX2_find_252 rfl ?_
          refine mJ_get_28_1 dX2_find_253 f_X2_64 ?_
          refine mJ_iload dX2_find_256 rfl ?_
          refine mJ_aload_n dX2_find_258 rfl ?_
          refine mJ_iconst (v := 1) dX2_find_259 rfl ?_
          refine mJ_cV1i dX2_find_260 e_X5_get n_X2_36 ⟨Nat.le_of_ble_eq_true rfl, Nat.le_of_ble_eq_true rfl⟩ rfl rfl (Nat.le_of_ble_eq_true rfl) (C_X5_get) ?_
          refine mJ_iload dX2_find_263 rfl ?_
          refine mJ_cS4i dX2_find_265 e_X7_spanLiesIn n_X2_67 ⟨Nat.le_of_ble_eq_true rfl, Nat.le_of_ble_eq_true rfl⟩ (Nat.le_of_ble_eq_true rfl) (C_X7_spanLiesIn) ?_
          refine mJ_b2i (fun b_265 => ?_) (fun b_265 => ?_)
          · refine mJ_if_eq 275 dX2_find_268 rfl (fun c => absurd c (by decide)) (fun _ => ?_)
            refine mJ_iconst (v := 1) dX2_find_271 rfl ?_
            refine mJ_goto 276 dX2_find_272 rfl ?_
            refine mJ_put_28_5 dX2_find_276 p_X2_71 (Or.inr rfl) ?_
            exact mJ_vret dX2_find_279 rfl (rfl) (by simp_all [f_P, f_x, f_y, f_acr, f_arr, f_beg, f_gd, f_in, f_len, f_b0, f_mid, f_shf, iif_t, iif_f, b2i_t, b2i_f])
          · refine mJ_if_eq 275 dX2_find_268 rfl (fun _ => ?_) (fun c => absurd c (by decide))
            refine mJ_iconst (v := 0) dX2_find_275 rfl ?_
            refine mJ_put_28_5 dX2_find_276 p_X2_71 (Or.inl rfl) ?_
            exact mJ_vret dX2_find_279 rfl (rfl) (by simp_all [f_P, f_x, f_y, f_acr, f_arr, f_beg, f_gd, f_in, f_len, f_b0, f_mid, f_shf, iif_t, iif_f, b2i_t, b2i_f])
        · refine mJ_if_eq 275 dX2_find_249 rfl (fun _ => ?_) (fun c => absurd c (by decide))
          refine mJ_iconst (v := 0) dX2_find_275 rfl ?_
          refine mJ_put_28_5 dX2_find_276 p_X2_71 (Or.inl rfl) ?_
          exact mJ_vret dX2_find_279 rfl (rfl) (by simp_all [f_P, f_x, f_y, f_acr, f_arr, f_beg, f_gd, f_in, f_len, f_b0, f_mid, f_shf, iif_t, iif_f, b2i_t, b2i_f])
    · refine mJ_aload_n dX2_find_77 rfl ?_
      refine mJ_iload dX2_find_78 rfl ?_
      refine mJ_if_eq 87 dX2_find_80 rfl (fun c => absurd c (by decide)) (fun _ => ?_)
      refine mJ_iconst (v := 0) dX2_find_83 rfl ?_
      refine mJ_goto 88 dX2_find_84 rfl ?_
      refine mJ_cV1i dX2_find_88 e_X5_get n_X2_36 ⟨Nat.le_of_ble_eq_true rfl, Nat.le_of_ble_eq_true rfl⟩ rfl rfl (Nat.le_of_ble_eq_true rfl) (C_X5_get) ?_
      refine mJ_istore dX2_find_91 (Nat.le_of_ble_eq_true rfl) (ls2 := [_, _, _, _, _, _, _, _, _, _, _, _, _, _, _]) rfl ?_
      refine mJ_aload_n dX2_find_93 rfl ?_
      refine mJ_iload dX2_find_94 rfl ?_
      refine mJ_iload dX2_find_96 rfl ?_
      refine mJ_if_eq 106 dX2_find_98 rfl (fun c => absurd c (by decide)) (fun _ => ?_)
      refine mJ_iload dX2_find_101 rfl ?_
      refine mJ_goto 108 dX2_find_103 rfl ?_
      refine mJ_iload dX2_find_108 rfl ?_
      refine mJ_iload dX2_find_110 rfl ?_
      refine mJ_iload dX2_find_112 rfl ?_
      refine mJ_iload dX2_find_114 rfl ?_
      refine mJ_isub dX2_find_116 ?_
      refine mJ_iload dX2_find_117 rfl ?_
      refine mJ_cS6i dX2_find_119 e_X2_shiftInto n_X2_39 ⟨Nat.le_of_ble_eq_true rfl, Nat.le_of_ble_eq_true rfl⟩ (Nat.le_of_ble_eq_true rfl) (C_X2_shiftInto) ?_
      refine mJ_put_28_2 dX2_find_122 p_X2_32 ?_
      refine mJ_iload dX2_find_125 rfl ?_
      refine mJ_aload_n dX2_find_127 rfl ?_
      refine mJ_get_28_2 dX2_find_128 f_X2_32 ?_
      refine mJ_iadd dX2_find_131 ?_
      refine mJ_istore dX2_find_132 (Nat.le_of_ble_eq_true rfl) (ls2 := [_, _, _, _, _, _, _, _, _, _, _, _, _, _, _]) rfl ?_
      refine mJ_aload_n dX2_find_134 rfl ?_
      refine mJ_iload dX2_find_135 rfl ?_
      refine mJ_iload dX2_find_137 rfl ?_
      refine mJ_isub dX2_find_139 ?_
      refine mJ_put_28_3 dX2_find_140 p_X2_43 ?_
      refine mJ_aload_n dX2_find_143 rfl ?_
      refine mJ_aload_n dX2_find_144 rfl ?_
      refine mJ_get_28_3 dX2_find_145 f_X2_43 ?_
      refine mJ_iload dX2_find_148 rfl ?_
      refine mJ_iload dX2_find_150 rfl ?_
      refine mJ_cS3i dX2_find_152 e_X2_isGood n_X2_46 ⟨Nat.le_of_ble_eq_true rfl, Nat.le_of_ble_eq_true rfl⟩ (Nat.le_of_ble_eq_true rfl) (C_X2_isGood) ?_
      refine mJ_put_28_4 dX2_find_155 p_X2_50 (b2i_01 _) ?_
      refine mJ_aload_n dX2_find_158 rfl ?_
      refine mJ_aload_n dX2_find_159 rfl ?_
      refine mJ_iload_n dX2_find_160 rfl ?_
      refine mJ_iconst (v := 0) dX2_find_161 rfl ?_
      refine mJ_cV2i dX2_find_162 e_X5_hintValue n_X2_9 ⟨Nat.le_of_ble_eq_true rfl, Nat.le_of_ble_eq_true rfl⟩ rfl rfl (Nat.le_of_ble_eq_true rfl) (C_X5_hintValue) ?_
      refine mJ_iload_n dX2_find_165 rfl ?_
      refine mJ_cS3i dX2_find_166 e_X7_edgeBy n_X2_54 ⟨Nat.le_of_ble_eq_true rfl, Nat.le_of_ble_eq_true rfl⟩ (Nat.le_of_ble_eq_true rfl) (C_X7_edgeBy) ?_
      refine mJ_istore dX2_find_169 (Nat.le_of_ble_eq_true rfl) (ls2 := [_, _, _, _, _, _, _, _, _, _, _, _, _, _, _]) rfl ?_
      refine mJ_iload_n dX2_find_171 rfl ?_
      refine mJ_cS1i dX2_find_172 e_X7_isBefore n_X2_58 ⟨Nat.le_of_ble_eq_true rfl, Nat.le_of_ble_eq_true rfl⟩ (Nat.le_of_ble_eq_true rfl) (C_X7_isBefore) ?_
      refine mJ_b2i (fun b_172 => ?_) (fun b_172 => ?_)
      · refine mJ_if_eq 196 dX2_find_175 rfl (fun c => absurd c (by decide)) (fun _ => ?_)
        refine mJ_iload dX2_find_178 rfl ?_
        refine mJ_iload dX2_find_180 rfl ?_
        refine mJ_if_eq 190 dX2_find_182 rfl (fun c => absurd c (by decide)) (fun _ => ?_)
        refine mJ_iload dX2_find_185 rfl ?_
        refine mJ_goto 192 dX2_find_187 rfl ?_
        refine mJ_isub dX2_find_192 ?_
        refine mJ_goto 198 dX2_find_193 rfl ?_
        refine mJ_istore dX2_find_198 (Nat.le_of_ble_eq_true rfl) (ls2 := [_, _, _, _, _, _, _, _, _, _, _, _, _, _, _]) rfl ?_
        refine mJ_aload_n dX2_find_200 rfl ?_
        refine mJ_iload dX2_find_201 rfl ?_
        refine mJ_if_eq 211 dX2_find_203 rfl (fun c => absurd c (by decide)) (fun _ => ?_)
        refine mJ_iload dX2_find_206 rfl ?_
        refine mJ_goto 213 dX2_find_208 rfl ?_
        refine mJ_put_28_0 dX2_find_213 p_X2_61 ?_
        refine mJ_aload_n dX2_find_216 rfl ?_
        refine mJ_iload dX2_find_217 rfl ?_
        refine mJ_if_eq 227 dX2_find_219 rfl (fun c => absurd c (by decide)) (fun _ => ?_)
        refine mJ_iload dX2_find_222 rfl ?_
        refine mJ_goto 229 dX2_find_224 rfl ?_
        refine mJ_put_28_1 dX2_find_229 p_X2_64 ?_
        refine mJ_aload_n dX2_find_232 rfl ?_
        refine mJ_aload_n dX2_find_233 rfl ?_
        refine mJ_get_28_0 dX2_find_234 f_X2_61 ?_
        refine mJ_iload dX2_find_237 rfl ?_
        refine mJ_aload_n dX2_find_239 rfl ?_
        refine mJ_iconst (v := 0) dX2_find_240 rfl ?_
        refine mJ_cV1i dX2_find_241 e_X5_get n_X2_36 ⟨Nat.le_of_ble_eq_true rfl, Nat.le_of_ble_eq_true rfl⟩ rfl rfl (Nat.le_of_ble_eq_true rfl) (C_X5_get) ?_
        refine mJ_iload dX2_find_244 rfl ?_
        refine mJ_cS4i dX2_find_246 e_X7_spanLiesIn n_X2_67 ⟨Nat.le_of_ble_eq_true rfl, Nat.le_of_ble_eq_true rfl⟩ (Nat.le_of_ble_eq_true rfl) (C_X7_spanLiesIn) ?_
        refine mJ_b2i (fun b_246 => ?_) (fun b_246 => ?_)
        · refine mJ_if_eq 275 dX2_find_249 rfl (fun c => absurd c (by decide)) (fun _ => ?_)
          refine mJ_aload_n dX2_find_252 rfl ?_
          refine mJ_get_28_1 dX2_find_253 f_X2_64 ?_
          refine mJ_iload dX2_find_256 rfl ?_
          refine mJ_aload_n dX2_find_258 rfl ?_
          refine mJ_iconst (v := 1) dX2_find_259 rfl ?_
          refine mJ_cV1i dX2_find_260 e_X5_get n_X2_36 ⟨Nat.le_of_ble_eq_true rfl, Nat.le_of_ble_eq_true rfl⟩ rfl rfl (Nat.le_of_ble_eq_true rfl) (C_X5_get) ?_
          refine mJ_iload dX2_find_263 rfl ?_
          refine mJ_cS4i dX2_find_265 e_X7_spanLiesIn n_X2_67 ⟨Nat.le_of_ble_eq_true rfl, Nat.le_of_ble_eq_true rfl⟩ (Nat.le_of_ble_eq_true rfl) (C_X7_spanLiesIn) ?_
          refine mJ_b2i (fun b_265 => ?_) (fun b_265 => ?_)
          · refine mJ_if_eq 275 dX2_find_268 rfl (fun c => absurd c (by decide)) (fun _ => ?_)
            refine mJ_iconst (v := 1) dX2_find_271 rfl ?_
            refine mJ_goto 276 dX2_find_272 rfl ?_
            refine mJ_put_28_5 dX2_find_276 p_X2_71 (Or.inr rfl) ?_
            exact mJ_vret dX2_find_279 rfl (rfl) (by simp_all [f_P, f_x, f_y, f_acr, f_arr, f_beg, f_gd, f_in, f_len, f_b0, f_mid, f_shf, iif_t, iif_f, b2i_t, b2i_f])
          · refine mJ_if_eq 275 dX2_find_268 rfl (fun _ => ?_) (fun c => absurd c (by decide))
            refine mJ_iconst (v := 0) dX2_find_275 rfl ?_
            refine mJ_put_28_5 dX2_find_276 p_X2_71 (Or.inl rfl) ?_
            exact mJ_vret dX2_find_279 rfl (rfl) (by simp_all [f_P, f_x, f_y, f_acr, f_arr, f_beg, f_gd, f_in, f_len, f_b0, f_mid, f_shf, iif_t, iif_f, b2i_t, b2i_f])
        · refine mJ_if_eq 275 dX2_find_249 rfl (fun _ => ?_) (fun c => absurd c (by decide))
          refine mJ_iconst (v := 0) dX2_find_275 rfl ?_
          refine mJ_put_28_5 dX2_find_276 p_X2_71 (Or.inl rfl) ?_
          exact mJ_vret dX2_find_279 rfl (rfl) (by simp_all [f_P, f_x, f_y, f_acr, f_arr, f_beg, f_gd, f_in, f_len, f_b0, f_mid, f_shf, iif_t, iif_f, b2i_t, b2i_f])
      · refine mJ_if_eq 196 dX2_find_175 rfl (fun _ => ?_) (fun c => absurd c (by decide))
        refine mJ_iload dX2_find_196 rfl ?_
        refine mJ_istore dX2_find_198 (Nat.le_of_ble_eq_true rfl) (ls2 := [_, _, _, _, _, _, _, _, _, _, _, _, _, _, _]) rfl ?_
        refine mJ_aload_n dX2_find_200 rfl ?_
        refine mJ_iload dX2_find_201 rfl ?_
        refine mJ_if_eq 211 dX2_find_203 rfl (fun c => absurd c (by decide)) (fun _ => ?_)
        refine mJ_iload dX2_find_206 rfl ?_
        refine mJ_goto 213 dX2_find_208 rfl ?_
        refine mJ_put_28_0 dX2_find_213 p_X2_61 ?_
        refine mJ_aload_n dX2_find_216 rfl ?_
        refine mJ_iload dX2_find_217 rfl ?_
        refine mJ_if_eq 227 dX2_find_219 rfl (fun c => absurd c (by decide)) (fun _ => ?_)
        refine mJ_iload dX2_find_222 rfl ?_
        refine mJ_goto 229 dX2_find_224 rfl ?_
        refine mJ_put_28_1 dX2_find_229 p_X2_64 ?_
        refine mJ_aload_n dX2_find_232 rfl ?_
        refine mJ_aload_n dX2_find_233 rfl ?_
        refine mJ_get_28_0 dX2_find_234 f_X2_61 ?_
        refine mJ_iload dX2_find_237 rfl ?_
        refine mJ_aload_n dX2_find_239 rfl ?_
        refine mJ_iconst (v := 0) dX2_find_240 rfl ?_
        refine mJ_cV1i dX2_find_241 e_X5_get n_X2_36 ⟨Nat.le_of_ble_eq_true rfl, Nat.le_of_ble_eq_true rfl⟩ rfl rfl (Nat.le_of_ble_eq_true rfl) (C_X5_get) ?_
        refine mJ_iload dX2_find_244 rfl ?_
        refine mJ_cS4i dX2_find_246 e_X7_spanLiesIn n_X2_67 ⟨Nat.le_of_ble_eq_true rfl, Nat.le_of_ble_eq_true rfl⟩ (Nat.le_of_ble_eq_true rfl) (C_X7_spanLiesIn) ?_
        refine mJ_b2i (fun b_246 => ?_) (fun b_246 => ?_)
        · refine mJ_if_eq 275 dX2_find_249 rfl (fun c => absurd c (by decide)) (fun _ => ?_)
          refine mJ_aload_n dX2_find_252 rfl ?_
          refine mJ_get_28_1 dX2_find_253 f_X2_64 ?_
          refine mJ_iload dX2_find_256 rfl ?_
          refine mJ_aload_n dX2_find_258 rfl ?_
          refine mJ_iconst (v := 1) dX2_find_259 rfl ?_
          refine mJ_cV1i dX2_find_260 e_X5_get n_X2_36 ⟨Nat.le_of_ble_eq_true rfl, Nat.le_of_ble_eq_true rfl⟩ rfl rfl (Nat.le_of_ble_eq_true rfl) (C_X5_get) ?_
          refine mJ_iload dX2_find_263 rfl ?_
          refine mJ_cS4i dX2_find_265 e_X7_spanLiesIn n_X2_67 ⟨Nat.le_of_ble_eq_true rfl, Nat.le_of_ble_eq_true rfl⟩ (Nat.le_of_ble_eq_true rfl) (C_X7_spanLiesIn) ?_
          refine mJ_b2i (fun b_265 => ?_) (fun b_265 => ?_)
          · refine mJ_if_eq 275 dX2_find_268 rfl (fun c => absurd c (by decide)) (fun _ => ?_)
            refine mJ_iconst (v := 1) dX2_find_271 rfl ?_
            refine mJ_goto 276 dX2_find_272 rfl ?_
            refine mJ_put_28_5 dX2_find_276 p_X2_71 (Or.inr rfl) ?_
            exact mJ_vret dX2_find_279 rfl (rfl) (by simp_all [f_P, f_x, f_y, f_acr, f_arr, f_beg, f_gd, f_in, f_len, f_b0, f_mid, f_shf, iif_t, iif_f, b2i_t, b2i_f])
          · refine mJ_if_eq 275 dX2_find_268 rfl (fun _ => ?_) (fun c => absurd c (by decide))
            refine mJ_iconst (v := 0) dX2_find_275 rfl ?_
            refine mJ_put_28_5 dX2_find_276 p_X2_71 (Or.inl rfl) ?_
            exact mJ_vret dX2_find_279 rfl (rfl) (by simp_all [f_P, f_x, f_y, f_acr, f_arr, f_beg, f_gd, f_in, f_len, f_b0, f_mid, f_shf, iif_t, iif_f, b2i_t, b2i_f])
        · refine mJ_if_eq 275 dX2_find_249 rfl (fun _ => ?_) (fun c => absurd c (by decide))
          refine mJ_iconst (v := 0) dX2_find_275 rfl ?_
          refine mJ_put_28_5 dX2_find_276 p_X2_71 (Or.inl rfl) ?_
          exact mJ_vret dX2_find_279 rfl (rfl) (by simp_all [f_P, f_x, f_y, f_acr, f_arr, f_beg, f_gd, f_in, f_len, f_b0, f_mid, f_shf, iif_t, iif_f, b2i_t, b2i_f])
  · refine mJ_istore dX2_find_20 (Nat.le_of_ble_eq_true rfl) (ls2 := [_, _, _, _, _, _, _, _, _, _, _, _, _, _, _]) rfl ?_
    refine mJ_iload dX2_find_22 rfl ?_
    refine mJ_if_eq 32 dX2_find_24 rfl (fun _ => ?_) (fun c => absurd c (by decide))
    refine mJ_iload dX2_find_32 rfl ?_
    refine mJ_istore dX2_find_34 (Nat.le_of_ble_eq_true rfl) (ls2 := [_, _, _, _, _, _, _, _, _, _, _, _, _, _, _]) rfl ?_
    refine mJ_aload_n dX2_find_36 rfl ?_
    refine mJ_iload_n dX2_find_37 rfl ?_
    refine mJ_iload dX2_find_38 rfl ?_
    refine mJ_cS3i dX2_find_40 e_X2_beginAlong n_X2_19 ⟨Nat.le_of_ble_eq_true rfl, Nat.le_of_ble_eq_true rfl⟩ (Nat.le_of_ble_eq_true rfl) (C_X2_beginAlong_0) ?_
    refine mJ_istore dX2_find_43 (Nat.le_of_ble_eq_true rfl) (ls2 := [_, _, _, _, _, _, _, _, _, _, _, _, _, _, _]) rfl ?_
    refine mJ_aload_n dX2_find_45 rfl ?_
    refine mJ_iload_n dX2_find_46 rfl ?_
    refine mJ_iload dX2_find_47 rfl ?_
    refine mJ_cS3i dX2_find_49 e_X2_middleAlong n_X2_25 ⟨Nat.le_of_ble_eq_true rfl, Nat.le_of_ble_eq_true rfl⟩ (Nat.le_of_ble_eq_true rfl) (C_X2_middleAlong_0) ?_
    refine mJ_istore dX2_find_52 (Nat.le_of_ble_eq_true rfl) (ls2 := [_, _, _, _, _, _, _, _, _, _, _, _, _, _, _]) rfl ?_
    refine mJ_aload_n dX2_find_54 rfl ?_
    refine mJ_iconst (v := 1) dX2_find_55 rfl ?_
    refine mJ_cV1i dX2_find_56 e_X5_setting n_X2_28 ⟨Nat.le_of_ble_eq_true rfl, Nat.le_of_ble_eq_true rfl⟩ rfl rfl (Nat.le_of_ble_eq_true rfl) (C_X5_setting) ?_
    refine mJ_istore dX2_find_59 (Nat.le_of_ble_eq_true rfl) (ls2 := [_, _, _, _, _, _, _, _, _, _, _, _, _, _, _]) rfl ?_
    refine mJ_aload_n dX2_find_61 rfl ?_
    refine mJ_iconst (v := 0) dX2_find_62 rfl ?_
    refine mJ_put_28_2 dX2_find_63 p_X2_32 ?_
    refine mJ_aload_n dX2_find_66 rfl ?_
    refine mJ_iload_n dX2_find_67 rfl ?_
    refine mJ_bipush (v := 6) dX2_find_68 rfl ?_
    refine mJ_cV2i dX2_find_70 e_X5_hintValue n_X2_9 ⟨Nat.le_of_ble_eq_true rfl, Nat.le_of_ble_eq_true rfl⟩ rfl rfl (Nat.le_of_ble_eq_true rfl) (C_X5_hintValue) ?_
    refine mJ_iconst (v := 1) dX2_find_73 rfl ?_
    refine mJ_icmp_ne 125 dX2_find_74 rfl (fun c_74 => ?_) (fun c_74 => ?_)
    · refine mJ_iload dX2_find_125 rfl ?_
      refine mJ_aload_n dX2_find_127 rfl ?_
      refine mJ_get_28_2 dX2_find_128 f_X2_32 ?_
      refine mJ_iadd dX2_find_131 ?_
      refine mJ_istore dX2_find_132 (Nat.le_of_ble_eq_true rfl) (ls2 := [_, _, _, _, _, _, _, _, _, _, _, _, _, _, _]) rfl ?_
      refine mJ_aload_n dX2_find_134 rfl ?_
      refine mJ_iload dX2_find_135 rfl ?_
      refine mJ_iload dX2_find_137 rfl ?_
      refine mJ_isub dX2_find_139 ?_
      refine mJ_put_28_3 dX2_find_140 p_X2_43 ?_
      refine mJ_aload_n dX2_find_143 rfl ?_
      refine mJ_aload_n dX2_find_144 rfl ?_
      refine mJ_get_28_3 dX2_find_145 f_X2_43 ?_
      refine mJ_iload dX2_find_148 rfl ?_
      refine mJ_iload dX2_find_150 rfl ?_
      refine mJ_cS3i dX2_find_152 e_X2_isGood n_X2_46 ⟨Nat.le_of_ble_eq_true rfl, Nat.le_of_ble_eq_true rfl⟩ (Nat.le_of_ble_eq_true rfl) (C_X2_isGood) ?_
      refine mJ_put_28_4 dX2_find_155 p_X2_50 (b2i_01 _) ?_
      refine mJ_aload_n dX2_find_158 rfl ?_
      refine mJ_aload_n dX2_find_159 rfl ?_
      refine mJ_iload_n dX2_find_160 rfl ?_
      refine mJ_iconst (v := 0) dX2_find_161 rfl ?_
      refine mJ_cV2i dX2_find_162 e_X5_hintValue n_X2_9 ⟨Nat.le_of_ble_eq_true rfl, Nat.le_of_ble_eq_true rfl⟩ rfl rfl (Nat.le_of_ble_eq_true rfl) (C_X5_hintValue) ?_
      refine mJ_iload_n dX2_find_165 rfl ?_
      refine mJ_cS3i dX2_find_166 e_X7_edgeBy n_X2_54 ⟨Nat.le_of_ble_eq_true rfl, Nat.le_of_ble_eq_true rfl⟩ (Nat.le_of_ble_eq_true rfl) (C_X7_edgeBy) ?_
      refine mJ_istore dX2_find_169 (Nat.le_of_ble_eq_true rfl) (ls2 := [_, _, _, _, _, _, _, _, _, _, _, _, _, _, _]) rfl ?_
      refine mJ_iload_n dX2_find_171 rfl ?_
      refine mJ_cS1i dX2_find_172 e_X7_isBefore n_X2_58 ⟨Nat.le_of_ble_eq_true rfl, Nat.le_of_ble_eq_true rfl⟩ (Nat.le_of_ble_eq_true rfl) (C_X7_isBefore) ?_
      refine mJ_b2i (fun b_172 => ?_) (fun b_172 => ?_)
      · refine mJ_if_eq 196 dX2_find_175 rfl (fun c => absurd c (by decide)) (fun _ => ?_)
        refine mJ_iload dX2_find_178 rfl ?_
        refine mJ_iload dX2_find_180 rfl ?_
        refine mJ_if_eq 190 dX2_find_182 rfl (fun _ => ?_) (fun c => absurd c (by decide))
        refine mJ_iload dX2_find_190 rfl ?_
        refine mJ_isub dX2_find_192 ?_
        refine mJ_goto 198 dX2_find_193 rfl ?_
        refine mJ_istore dX2_find_198 (Nat.le_of_ble_eq_true rfl) (ls2 := [_, _, _, _, _, _, _, _, _, _, _, _, _, _, _]) rfl ?_
        refine mJ_aload_n dX2_find_200 rfl ?_
        refine mJ_iload dX2_find_201 rfl ?_
        refine mJ_if_eq 211 dX2_find_203 rfl (fun _ => ?_) (fun c => absurd c (by decide))
        refine mJ_iload dX2_find_211 rfl ?_
        refine mJ_put_28_0 dX2_find_213 p_X2_61 ?_
        refine mJ_aload_n dX2_find_216 rfl ?_
        refine mJ_iload dX2_find_217 rfl ?_
        refine mJ_if_eq 227 dX2_find_219 rfl (fun _ => ?_) (fun c => absurd c (by decide))
        refine mJ_iload dX2_find_227 rfl ?_
        refine mJ_put_28_1 dX2_find_229 p_X2_64 ?_
        refine mJ_aload_n dX2_find_232 rfl ?_
        refine mJ_aload_n dX2_find_233 rfl ?_
        refine mJ_get_28_0 dX2_find_234 f_X2_61 ?_
        refine mJ_iload dX2_find_237 rfl ?_
        refine mJ_aload_n dX2_find_239 rfl ?_
        refine mJ_iconst (v := 0) dX2_find_240 rfl ?_
        refine mJ_cV1i dX2_find_241 e_X5_get n_X2_36 ⟨Nat.le_of_ble_eq_true rfl, Nat.le_of_ble_eq_true rfl⟩ rfl rfl (Nat.le_of_ble_eq_true rfl) (C_X5_get) ?_
        refine mJ_iload dX2_find_244 rfl ?_
        refine mJ_cS4i dX2_find_246 e_X7_spanLiesIn n_X2_67 ⟨Nat.le_of_ble_eq_true rfl, Nat.le_of_ble_eq_true rfl⟩ (Nat.le_of_ble_eq_true rfl) (C_X7_spanLiesIn) ?_
        refine mJ_b2i (fun b_246 => ?_) (fun b_246 => ?_)
        · refine mJ_if_eq 275 dX2_find_249 rfl (fun c => absurd c (by decide)) (fun _ => ?_)
          refine mJ_aload_n dX2_find_252 rfl ?_
          refine mJ_get_28_1 dX2_find_253 f_X2_64 ?_
          refine mJ_iload dX2_find_256 rfl ?_
          refine mJ_aload_n dX2_find_258 rfl ?_
          refine mJ_iconst (v := 1) dX2_find_259 rfl ?_
          refine mJ_cV1i dX2_find_260 e_X5_get n_X2_36 ⟨Nat.le_of_ble_eq_true rfl, Nat.le_of_ble_eq_true rfl⟩ rfl rfl (Nat.le_of_ble_eq_true rfl) (C_X5_get) ?_
          refine mJ_iload dX2_find_263 rfl ?_
          refine mJ_cS4i dX2_find_265 e_X7_spanLiesIn n_X2_67 ⟨Nat.le_of_ble_eq_true rfl, Nat.le_of_ble_eq_true rfl⟩ (Nat.le_of_ble_eq_true rfl) (C_X7_spanLiesIn) ?_
          refine mJ_b2i (fun b_265 => ?_) (fun b_265 => ?_)
          · refine mJ_if_eq 275 dX2_find_268 rfl (fun c => absurd c (by decide)) (fun _ => ?_)
            refine mJ_iconst (v := 1) dX2_find_271 rfl ?_
            refine mJ_goto 276 dX2_find_272 rfl ?_
            refine mJ_put_28_5 dX2_find_276 p_X2_71 (Or.inr rfl) ?_
            exact mJ_vret dX2_find_279 rfl (rfl) (by simp_all [f_P, f_x, f_y, f_acr, f_arr, f_beg, f_gd, f_in, f_len, f_b0, f_mid, f_shf, iif_t, iif_f, b2i_t, b2i_f])
          · refine mJ_if_eq 275 dX2_find_268 rfl (fun _ => ?_) (fun c => absurd c (by decide))
            refine mJ_iconst (v := 0) dX2_find_275 rfl ?_
            refine mJ_put_28_5 dX2_find_276 p_X2_71 (Or.inl rfl) ?_
            exact mJ_vret dX2_find_279 rfl (rfl) (by simp_all [f_P, f_x, f_y, f_acr, f_arr, f_beg, f_gd, f_in, f_len, f_b0, f_mid, f_shf, iif_t, iif_f, b2i_t, b2i_f])
        · refine mJ_if_eq 275 dX2_find_249 rfl (fun _ => ?_) (fun c => absurd c (by decide))
          refine mJ_iconst (v := 0) dX2_find_275 rfl ?_
          refine mJ_put_28_5 dX2_find_276 p_X2_71 (Or.inl rfl) ?_
          exact mJ_vret dX2_find_279 rfl (rfl) (by simp_all [f_P, f_x, f_y, f_acr, f_arr, f_beg, f_gd, f_in, f_len, f_b0, f_mid, f_shf, iif_t, iif_f, b2i_t, b2i_f])
      · refine mJ_if_eq 196 dX2_find_175 rfl (fun _ => ?_) (fun c => absurd c (by decide))
        refine mJ_iload dX2_find_196 rfl ?_
        refine mJ_istore dX2_find_198 (Nat.le_of_ble_eq_true rfl) (ls2 := [_, _, _, _, _, _, _, _, _, _, _, _, _, _, _]) rfl ?_
        refine mJ_aload_n dX2_find_200 rfl ?_
        refine mJ_iload dX2_find_201 rfl ?_
        refine mJ_if_eq 211 dX2_find_203 rfl (fun _ => ?_) (fun c => absurd c (by decide))
        refine mJ_iload dX2_find_211 rfl ?_
        refine mJ_put_28_0 dX2_find_213 p_X2_61 ?_
        refine mJ_aload_n dX2_find_216 rfl ?_
        refine mJ_iload dX2_find_217 rfl ?_
        refine mJ_if_eq 227 dX2_find_219 rfl (fun _ => ?_) (fun c => absurd c (by decide))
        refine mJ_iload dX2_find_227 rfl ?_
        refine mJ_put_28_1 dX2_find_229 p_X2_64 ?_
        refine mJ_aload_n dX2_find_232 rfl ?_
        refine mJ_aload_n dX2_find_233 rfl ?_
        refine mJ_get_28_0 dX2_find_234 f_X2_61 ?_
        refine mJ_iload dX2_find_237 rfl ?_
        refine mJ_aload_n dX2_find_239 rfl ?_
        refine mJ_iconst (v := 0) dX2_find_240 rfl ?_
        refine mJ_cV1i dX2_find_241 e_X5_get n_X2_36 ⟨Nat.le_of_ble_eq_true rfl, Nat.le_of_ble_eq_true rfl⟩ rfl rfl (Nat.le_of_ble_eq_true rfl) (C_X5_get) ?_
        refine mJ_iload dX2_find_244 rfl ?_
        refine mJ_cS4i dX2_find_246 e_X7_spanLiesIn n_X2_67 ⟨Nat.le_of_ble_eq_true rfl, Nat.le_of_ble_eq_true rfl⟩ (Nat.le_of_ble_eq_true rfl) (C_X7_spanLiesIn) ?_
        refine mJ_b2i (fun b_246 => ?_) (fun b_246 => ?_)
        · refine mJ_if_eq 275 dX2_find_249 rfl (fun c => absurd c (by decide)) (fun _ => ?_)
          refine mJ_aload_n dX2_find_252 rfl ?_
          refine mJ_get_28_1 dX2_find_253 f_X2_64 ?_
          refine mJ_iload dX2_find_256 rfl ?_
          refine mJ_aload_n dX2_find_258 rfl ?_
          refine mJ_iconst (v := 1) dX2_find_259 rfl ?_
          refine mJ_cV1i dX2_find_260 e_X5_get n_X2_36 ⟨Nat.le_of_ble_eq_true rfl, Nat.le_of_ble_eq_true rfl⟩ rfl rfl (Nat.le_of_ble_eq_true rfl) (C_X5_get) ?_
          refine mJ_iload dX2_find_263 rfl ?_
          refine mJ_cS4i dX2_find_265 e_X7_spanLiesIn n_X2_67 ⟨Nat.le_of_ble_eq_true rfl, Nat.le_of_ble_eq_true rfl⟩ (Nat.le_of_ble_eq_true rfl) (C_X7_spanLiesIn) ?_
          refine mJ_b2i (fun b_265 => ?_) (fun b_265 => ?_)
          · refine mJ_if_eq 275 dX2_find_268 rfl (fun c => absurd c (by decide)) (fun _ => ?_)
            refine mJ_iconst (v := 1) dX2_find_271 rfl ?_
            refine mJ_goto 276 dX2_find_272 rfl ?_
            refine mJ_put_28_5 dX2_find_276 p_X2_71 (Or.inr rfl) ?_
            exact mJ_vret dX2_find_279 rfl (rfl) (by simp_all [f_P, f_x, f_y, f_acr, f_arr, f_beg, f_gd, f_in, f_len, f_b0, f_mid, f_shf, iif_t, iif_f, b2i_t, b2i_f])
          · refine mJ_if_eq 275 dX2_find_268 rfl (fun _ => ?_) (fun c => absurd c (by decide))
            refine mJ_iconst (v := 0) dX2_find_275 rfl ?_
            refine mJ_put_28_5 dX2_find_276 p_X2_71 (Or.inl rfl) ?_
            exact mJ_vret dX2_find_279 rfl (rfl) (by simp_all [f_P, f_x, f_y, f_acr, f_arr, f_beg, f_gd, f_in, f_len, f_b0, f_mid, f_shf, iif_t, iif_f, b2i_t, b2i_f])
        · refine mJ_if_eq 275 dX2_find_249 rfl (fun _ => ?_) (fun c => absurd c (by decide))
          refine mJ_iconst (v := 0) dX2_find_275 rfl ?_
          refine mJ_put_28_5 dX2_find_276 p_X2_71 (Or.inl rfl) ?_
          exact mJ_vret dX2_find_279 rfl (rfl) (by simp_all [f_P, f_x, f_y, f_acr, f_arr, f_beg, f_gd, f_in, f_len, f_b0, f_mid, f_shf, iif_t, iif_f, b2i_t, b2i_f])
    · refine mJ_aload_n dX2_find_77 rfl ?_
      refine mJ_iload dX2_find_78 rfl ?_
      refine mJ_if_eq 87 dX2_find_80 rfl (fun _ => ?_) (fun c => absurd c (by decide))
      refine mJ_iconst (v := 1) dX2_find_87 rfl ?_
      refine mJ_cV1i dX2_find_88 e_X5_get n_X2_36 ⟨Nat.le_of_ble_eq_true rfl, Nat.le_of_ble_eq_true rfl⟩ rfl rfl (Nat.le_of_ble_eq_true rfl) (C_X5_get) ?_
      refine mJ_istore dX2_find_91 (Nat.le_of_ble_eq_true rfl) (ls2 := [_, _, _, _, _, _, _, _, _, _, _, _, _, _, _]) rfl ?_
      refine mJ_aload_n dX2_find_93 rfl ?_
      refine mJ_iload dX2_find_94 rfl ?_
      refine mJ_iload dX2_find_96 rfl ?_
      refine mJ_if_eq 106 dX2_find_98 rfl (fun _ => ?_) (fun c => absurd c (by decide))
      refine mJ_iload dX2_find_106 rfl ?_
      refine mJ_iload dX2_find_108 rfl ?_
      refine mJ_iload dX2_find_110 rfl ?_
      refine mJ_iload dX2_find_112 rfl ?_
      refine mJ_iload dX2_find_114 rfl ?_
      refine mJ_isub dX2_find_116 ?_
      refine mJ_iload dX2_find_117 rfl ?_
      refine mJ_cS6i dX2_find_119 e_X2_shiftInto n_X2_39 ⟨Nat.le_of_ble_eq_true rfl, Nat.le_of_ble_eq_true rfl⟩ (Nat.le_of_ble_eq_true rfl) (C_X2_shiftInto) ?_
      refine mJ_put_28_2 dX2_find_122 p_X2_32 ?_
      refine mJ_iload dX2_find_125 rfl ?_
      refine mJ_aload_n dX2_find_127 rfl ?_
      refine mJ_get_28_2 dX2_find_128 f_X2_32 ?_
      refine mJ_iadd dX2_find_131 ?_
      refine mJ_istore dX2_find_132 (Nat.le_of_ble_eq_true rfl) (ls2 := [_, _, _, _, _, _, _, _, _, _, _, _, _, _, _]) rfl ?_
      refine mJ_aload_n dX2_find_134 rfl ?_
      refine mJ_iload dX2_find_135 rfl ?_
      refine mJ_iload dX2_find_137 rfl ?_
      refine mJ_isub dX2_find_139 ?_
      refine mJ_put_28_3 dX2_find_140 p_X2_43 ?_
      refine mJ_aload_n dX2_find_143 rfl ?_
      refine mJ_aload_n dX2_find_144 rfl ?_
      refine mJ_get_28_3 dX2_find_145 f_X2_43 ?_
      refine mJ_iload dX2_find_148 rfl ?_
      refine mJ_iload dX2_find_150 rfl ?_
      refine mJ_cS3i dX2_find_152 e_X2_isGood n_X2_46 ⟨Nat.le_of_ble_eq_true rfl, Nat.le_of_ble_eq_true rfl⟩ (Nat.le_of_ble_eq_true rfl) (C_X2_isGood) ?_
      refine mJ_put_28_4 dX2_find_155 p_X2_50 (b2i_01 _) ?_
      refine mJ_aload_n dX2_find_158 rfl ?_
      refine mJ_aload_n dX2_find_159 rfl ?_
      refine mJ_iload_n dX2_find_160 rfl ?_
      refine mJ_iconst (v := 0) dX2_find_161 rfl ?_
      refine mJ_cV2i dX2_find_162 e_X5_hintValue n_X2_9 ⟨Nat.le_of_ble_eq_true rfl, Nat.le_of_ble_eq_true rfl⟩ rfl rfl (Nat.le_of_ble_eq_true rfl) (C_X5_hintValue) ?_
      refine mJ_iload_n dX2_find_165 rfl ?_
      refine mJ_cS3i dX2_find_166 e_X7_edgeBy n_X2_54 ⟨Nat.le_of_ble_eq_true rfl, Nat.le_of_ble_eq_true rfl⟩ (Nat.le_of_ble_eq_true rfl) (C_X7_edgeBy) ?_
      refine mJ_istore dX2_find_169 (Nat.le_of_ble_eq_true rfl) (ls2 := [_, _, _, _, _, _, _, _, _, _, _, _, _, _, _]) rfl ?_
      refine mJ_iload_n dX2_find_171 rfl ?_
      refine mJ_cS1i dX2_find_172 e_X7_isBefore n_X2_58 ⟨Nat.le_of_ble_eq_true rfl, Nat.le_of_ble_eq_true rfl⟩ (Nat.le_of_ble_eq_true rfl) (C_X7_isBefore) ?_
      refine mJ_b2i (fun b_172 => ?_) (fun b_172 => ?_)
      · refine mJ_if_eq 196 dX2_find_175 rfl (fun c => absurd c (by decide)) (fun _ => ?_)
        refine mJ_iload dX2_find_178 rfl ?_
        refine mJ_iload dX2_find_180 rfl ?_
        refine mJ_if_eq 190 dX2_find_182 rfl (fun _ => ?_) (fun c => absurd c (by decide))
        refine mJ_iload dX2_find_190 rfl ?_
        refine mJ_isub dX2_find_192 ?_
        refine mJ_goto 198 dX2_find_193 rfl ?_
        refine mJ_istore dX2_find_198 (Nat.le_of_ble_eq_true rfl) (ls2 := [_, _, _, _, _, _, _, _, _, _, _, _, _, _, _]) rfl ?_
        refine mJ_aload_n dX2_find_200 rfl ?_
        refine mJ_iload dX2_find_201 rfl ?_
        refine mJ_if_eq 211 dX2_find_203 rfl (fun _ => ?_) (fun c => absurd c (by decide))
        refine mJ_iload dX2_find_211 rfl ?_
        refine mJ_put_28_0 dX2_find_213 p_X2_61 ?_
        refine mJ_aload_n dX2_find_216 rfl ?_
        refine mJ_iload dX2_find_217 rfl ?_
        refine mJ_if_eq 227 dX2_find_219 rfl (fun _ => ?_) (fun c => absurd c (by decide))
        refine mJ_iload dX2_find_227 rfl ?_
        refine mJ_put_28_1 dX2_find_229 p_X2_64 ?_
        refine mJ_aload_n dX2_find_232 rfl ?_
        refine mJ_aload_n dX2_find_233 rfl ?_
        refine mJ_get_28_0 dX2_find_234 f_X2_61 ?_
        refine mJ_iload dX2_find_237 rfl ?_
        refine mJ_aload_n dX2_find_239 rfl ?_
        refine mJ_iconst (v := 0) dX2_find_240 rfl ?_
        refine mJ_cV1i dX2_find_241 e_X5_get n_X2_36 ⟨Nat.le_of_ble_eq_true rfl, Nat.le_of_ble_eq_true rfl⟩ rfl rfl (Nat.le_of_ble_eq_true rfl) (C_X5_get) ?_
        refine mJ_iload dX2_find_244 rfl ?_
        refine mJ_cS4i dX2_find_246 e_X7_spanLiesIn n_X2_67 ⟨Nat.le_of_ble_eq_true rfl, Nat.le_of_ble_eq_true rfl⟩ (Nat.le_of_ble_eq_true rfl) (C_X7_spanLiesIn) ?_
        refine mJ_b2i (fun b_246 => ?_) (fun b_246 => ?_)
        · refine mJ_if_eq 275 dX2_find_249 rfl (fun c => absurd c (by decide)) (fun _ => ?_)
          refine mJ_aload_n dX2_find_252 rfl ?_
          refine mJ_get_28_1 dX2_find_253 f_X2_64 ?_
          refine mJ_iload dX2_find_256 rfl ?_
          refine mJ_aload_n dX2_find_258 rfl ?_
          refine mJ_iconst (v := 1) dX2_find_259 rfl ?_
          refine mJ_cV1i dX2_find_260 e_X5_get n_X2_36 ⟨Nat.le_of_ble_eq_true rfl, Nat.le_of_ble_eq_true rfl⟩ rfl rfl (Nat.le_of_ble_eq_true rfl) (C_X5_get) ?_
          refine mJ_iload dX2_find_263 rfl ?_
          refine mJ_cS4i dX2_find_265 e_X7_spanLiesIn n_X2_67 ⟨Nat.le_of_ble_eq_true rfl, Nat.le_of_ble_eq_true rfl⟩ (Nat.le_of_ble_eq_true rfl) (C_X7_spanLiesIn) ?_
          refine mJ_b2i (fun b_265 => ?_) (fun b_265 => ?_)
          · refine mJ_if_eq 275 dX2_find_268 rfl (fun c => absurd c (by decide)) (fun _ => ?_)
            refine mJ_iconst (v := 1) dX2_find_271 rfl ?_
            refine mJ_goto 276 dX2_find_272 rfl ?_
            refine mJ_put_28_5 dX2_find_276 p_X2_71 (Or.inr rfl) ?_
            exact mJ_vret dX2_find_279 rfl (rfl) (by simp_all [f_P, f_x, f_y, f_acr, f_arr, f_beg, f_gd, f_in, f_len, f_b0, f_mid, f_shf, iif_t, iif_f, b2i_t, b2i_f])
          · refine mJ_if_eq 275 dX2_find_268 rfl (fun _ => ?_) (fun c => absurd c (by decide))
            refine mJ_iconst (v := 0) dX2_find_275 rfl ?_
            refine mJ_put_28_5 dX2_find_276 p_X2_71 (Or.inl rfl) ?_
            exact mJ_vret dX2_find_279 rfl (rfl) (by simp_all [f_P, f_x, f_y, f_acr, f_arr, f_beg, f_gd, f_in, f_len, f_b0, f_mid, f_shf, iif_t, iif_f, b2i_t, b2i_f])
        · refine mJ_if_eq 275 dX2_find_249 rfl (fun _ => ?_) (fun c => absurd c (by decide))
          refine mJ_iconst (v := 0) dX2_find_275 rfl ?_
          refine mJ_put_28_5 dX2_find_276 p_X2_71 (Or.inl rfl) ?_
          exact mJ_vret dX2_find_279 rfl (rfl) (by simp_all [f_P, f_x, f_y, f_acr, f_arr, f_beg, f_gd, f_in, f_len, f_b0, f_mid, f_shf, iif_t, iif_f, b2i_t, b2i_f])
      · refine mJ_if_eq 196 dX2_find_175 rfl (fun _ => ?_) (fun c => absurd c (by decide))
        refine mJ_iload dX2_find_196 rfl ?_
        refine mJ_istore dX2_find_198 (Nat.le_of_ble_eq_true rfl) (ls2 := [_, _, _, _, _, _, _, _, _, _, _, _, _, _, _]) rfl ?_
        refine mJ_aload_n dX2_find_200 rfl ?_
        refine mJ_iload dX2_find_201 rfl ?_
        refine mJ_if_eq 211 dX2_find_203 rfl (fun _ => ?_) (fun c => absurd c (by decide))
        refine mJ_iload dX2_find_211 rfl ?_
        refine mJ_put_28_0 dX2_find_213 p_X2_61 ?_
        refine mJ_aload_n dX2_find_216 rfl ?_
        refine mJ_iload dX2_find_217 rfl ?_
        refine mJ_if_eq 227 dX2_find_219 rfl (fun _ => ?_) (fun c => absurd c (by decide))
        refine mJ_iload dX2_find_227 rfl ?_
        refine mJ_put_28_1 dX2_find_229 p_X2_64 ?_
        refine mJ_aload_n dX2_find_232 rfl ?_
        refine mJ_aload_n dX2_find_233 rfl ?_
        refine mJ_get_28_0 dX2_find_234 f_X2_61 ?_
        refine mJ_iload dX2_find_237 rfl ?_
        refine mJ_aload_n dX2_find_239 rfl ?_
        refine mJ_iconst (v := 0) dX2_find_240 rfl ?_
        refine mJ_cV1i dX2_find_241 e_X5_get n_X2_36 ⟨Nat.le_of_ble_eq_true rfl, Nat.le_of_ble_eq_true rfl⟩ rfl rfl (Nat.le_of_ble_eq_true rfl) (C_X5_get) ?_
        refine mJ_iload dX2_find_244 rfl ?_
        refine mJ_cS4i dX2_find_246 e_X7_spanLiesIn n_X2_67 ⟨Nat.le_of_ble_eq_true rfl, Nat.le_of_ble_eq_true rfl⟩ (Nat.le_of_ble_eq_true rfl) (C_X7_spanLiesIn) ?_
        refine mJ_b2i (fun b_246 => ?_) (fun b_246 => ?_)
        · refine mJ_if_eq 275 dX2_find_249 rfl (fun c => absurd c (by decide)) (fun _ => ?_)
          refine mJ_aload_n dX2_find_252 rfl ?_
          refine mJ_get_28_1 dX2_find_253 f_X2_64 ?_
          refine mJ_iload dX2_find_256 rfl ?_
          refine mJ_aload_n dX2_find_258 rfl ?_
          refine mJ_iconst (v := 1) dX2_find_259 rfl ?_
          refine mJ_cV1i dX2_find_260 e_X5_get n_X2_36 ⟨Nat.le_of_ble_eq_true rfl, Nat.le_of_ble_eq_true rfl⟩ rfl rfl (Nat.le_of_ble_eq_true rfl) (C_X5_get) ?_
          refine mJ_iload dX2_find_263 rfl ?_
          refine mJ_cS4i dX2_find_265 e_X7_spanLiesIn n_X2_67 ⟨Nat.le_of_ble_eq_true rfl, Nat.le_of_ble_eq_true rfl⟩ (Nat.le_of_ble_eq_true rfl) (C_X7_spanLiesIn) ?_
          refine mJ_b2i (fun b_265 => ?_) (fun b_265 => ?_)
          · refine mJ_if_eq 275 dX2_find_268 rfl (fun c => absurd c (by decide)) (fun _ => ?_)
            refine mJ_iconst (v := 1) dX2_find_271 rfl ?_
            refine mJ_goto 276 dX2_find_272 rfl ?_
            refine mJ_put_28_5 dX2_find_276 p_X2_71 (Or.inr rfl) ?_
            exact mJ_vret dX2_find_279 rfl (rfl) (by simp_all [f_P, f_x, f_y, f_acr, f_arr, f_beg, f_gd, f_in, f_len, f_b0, f_mid, f_shf, iif_t, iif_f, b2i_t, b2i_f])
          · refine mJ_if_eq 275 dX2_find_268 rfl (fun _ => ?_) (fun c => absurd c (by decide))
            refine mJ_iconst (v := 0) dX2_find_275 rfl ?_
            refine mJ_put_28_5 dX2_find_276 p_X2_71 (Or.inl rfl) ?_
            exact mJ_vret dX2_find_279 rfl (rfl) (by simp_all [f_P, f_x, f_y, f_acr, f_arr, f_beg, f_gd, f_in, f_len, f_b0, f_mid, f_shf, iif_t, iif_f, b2i_t, b2i_f])
        · refine mJ_if_eq 275 dX2_find_249 rfl (fun _ => ?_) (fun c => absurd c (by decide))
          refine mJ_iconst (v := 0) dX2_find_275 rfl ?_
          refine mJ_put_28_5 dX2_find_276 p_X2_71 (Or.inl rfl) ?_
          exact mJ_vret dX2_find_279 rfl (rfl) (by simp_all [f_P, f_x, f_y, f_acr, f_arr, f_beg, f_gd, f_in, f_len, f_b0, f_mid, f_shf, iif_t, iif_f, b2i_t, b2i_f])
set_option maxHeartbeats 4000000 in
set_option maxRecDepth 100000 in
theorem C_X7_moveView {C : aF} {Hs : tH} {Sw : tS} {T1 : tT} {P1 : tP} {Od : tO} {T2 : tT} {P2 : tP} {x y : Int32} : mCt k_X7_moveView [.ref 0, .int x, .int y] (cH C Hs Sw T1 P1 Od T2 P2) none (cH (sP (sP C 0 (gG C 0 + x)) 1 (gG (sP C 0 (gG C 0 + x)) 1 + y)) Hs Sw T1 P1 Od T2 P2) := by
  refine mCt_intro (plainFor_of_name rfl) (Nat.le_of_ble_eq_true rfl) (m_all rfl) (ls := [_, _, _]) rfl ?_
  refine mJ_aload_n dX7_moveView_0 rfl ?_
  refine mJ_get dX7_moveView_1 f_X7_12 rfl rfl ?_
  refine mJ_iconst (v := 0) dX7_moveView_4 rfl ?_
  refine mJ_aload_n dX7_moveView_5 rfl ?_
  refine mJ_get dX7_moveView_6 f_X7_12 rfl rfl ?_
  refine mJ_iconst (v := 0) dX7_moveView_9 rfl ?_
  refine mJ_cV1i dX7_moveView_10 e_X5_get n_X7_80 ⟨Nat.le_of_ble_eq_true rfl, Nat.le_of_ble_eq_true rfl⟩ rfl rfl (Nat.le_of_ble_eq_true rfl) (C_X5_get) ?_
  refine mJ_iload_n dX7_moveView_13 rfl ?_
  refine mJ_iadd dX7_moveView_14 ?_
  refine mJ_cV2v dX7_moveView_15 e_X5_put n_X7_59 ⟨Nat.le_of_ble_eq_true rfl, Nat.le_of_ble_eq_true rfl⟩ rfl rfl (Nat.le_of_ble_eq_true rfl) (C_X5_put) ?_
  refine mJ_aload_n dX7_moveView_18 rfl ?_
  refine mJ_get dX7_moveView_19 f_X7_12 rfl rfl ?_
  refine mJ_iconst (v := 1) dX7_moveView_22 rfl ?_
  refine mJ_aload_n dX7_moveView_23 rfl ?_
  refine mJ_get dX7_moveView_24 f_X7_12 rfl rfl ?_
  refine mJ_iconst (v := 1) dX7_moveView_27 rfl ?_
  refine mJ_cV1i dX7_moveView_28 e_X5_get n_X7_80 ⟨Nat.le_of_ble_eq_true rfl, Nat.le_of_ble_eq_true rfl⟩ rfl rfl (Nat.le_of_ble_eq_true rfl) (C_X5_get) ?_
  refine mJ_iload_n dX7_moveView_31 rfl ?_
  refine mJ_iadd dX7_moveView_32 ?_
  refine mJ_cV2v dX7_moveView_33 e_X5_put n_X7_59 ⟨Nat.le_of_ble_eq_true rfl, Nat.le_of_ble_eq_true rfl⟩ rfl rfl (Nat.le_of_ble_eq_true rfl) (C_X5_put) ?_
  exact mJ_vret dX7_moveView_36 rfl (rfl) (rfl)
set_option maxHeartbeats 4000000 in
set_option maxRecDepth 100000 in
theorem C_X7_openHint {C : aF} {Hs : tH} {Sw : tS} {T1 : tT} {P1 : tP} {Od : tO} {T2 : tT} {P2 : tP} {h : Int32} : mCt k_X7_openHint [.ref 0, .int h] (cH C Hs Sw T1 P1 Od T2 P2) none (cH (sH (sP C 6 (gG C 6 + 1)) h 8 (gG C 6 + 1)) Hs Sw T1 P1 Od T2 P2) := by
  refine mCt_intro (plainFor_of_name rfl) (Nat.le_of_ble_eq_true rfl) (m_all rfl) (ls := [_, _, _]) rfl ?_
  refine mJ_aload_n dX7_openHint_0 rfl ?_
  refine mJ_get dX7_openHint_1 f_X7_12 rfl rfl ?_
  refine mJ_bipush (v := 6) dX7_openHint_4 rfl ?_
  refine mJ_cV1i dX7_openHint_6 e_X5_get n_X7_80 ⟨Nat.le_of_ble_eq_true rfl, Nat.le_of_ble_eq_true rfl⟩ rfl rfl (Nat.le_of_ble_eq_true rfl) (C_X5_get) ?_
  refine mJ_iconst (v := 1) dX7_openHint_9 rfl ?_
  refine mJ_iadd dX7_openHint_10 ?_
  refine mJ_istore_n dX7_openHint_11 (Nat.le_of_ble_eq_true rfl) (ls2 := [_, _, _]) rfl ?_
  refine mJ_aload_n dX7_openHint_12 rfl ?_
  refine mJ_get dX7_openHint_13 f_X7_12 rfl rfl ?_
  refine mJ_bipush (v := 6) dX7_openHint_16 rfl ?_
  refine mJ_iload_n dX7_openHint_18 rfl ?_
  refine mJ_cV2v dX7_openHint_19 e_X5_put n_X7_59 ⟨Nat.le_of_ble_eq_true rfl, Nat.le_of_ble_eq_true rfl⟩ rfl rfl (Nat.le_of_ble_eq_true rfl) (C_X5_put) ?_
  refine mJ_aload_n dX7_openHint_22 rfl ?_
  refine mJ_get dX7_openHint_23 f_X7_12 rfl rfl ?_
  refine mJ_iload_n dX7_openHint_26 rfl ?_
  refine mJ_bipush (v := 8) dX7_openHint_27 rfl ?_
  refine mJ_iload_n dX7_openHint_29 rfl ?_
  refine mJ_cV3v dX7_openHint_30 e_X5_putHintValue n_X7_137 ⟨Nat.le_of_ble_eq_true rfl, Nat.le_of_ble_eq_true rfl⟩ rfl rfl (Nat.le_of_ble_eq_true rfl) (C_X5_putHintValue) ?_
  exact mJ_vret dX7_openHint_33 rfl (rfl) (rfl)
set_option maxHeartbeats 4000000 in
set_option maxRecDepth 100000 in
theorem C_X7_closeHint {C : aF} {Hs : tH} {Sw : tS} {T1 : tT} {P1 : tP} {Od : tO} {T2 : tT} {P2 : tP} {h : Int32} : mCt k_X7_closeHint [.ref 0, .int h] (cH C Hs Sw T1 P1 Od T2 P2) none (cH (sH (sH C h 8 0) h 9 (-1)) Hs Sw T1 P1 Od T2 P2) := by
  refine mCt_intro (plainFor_of_name rfl) (Nat.le_of_ble_eq_true rfl) (m_all rfl) (ls := [_, _]) rfl ?_
  refine mJ_aload_n dX7_closeHint_0 rfl ?_
  refine mJ_get dX7_closeHint_1 f_X7_12 rfl rfl ?_
  refine mJ_iload_n dX7_closeHint_4 rfl ?_
  refine mJ_bipush (v := 8) dX7_closeHint_5 rfl ?_
  refine mJ_iconst (v := 0) dX7_closeHint_7 rfl ?_
  refine mJ_cV3v dX7_closeHint_8 e_X5_putHintValue n_X7_137 ⟨Nat.le_of_ble_eq_true rfl, Nat.le_of_ble_eq_true rfl⟩ rfl rfl (Nat.le_of_ble_eq_true rfl) (C_X5_putHintValue) ?_
  refine mJ_aload_n dX7_closeHint_11 rfl ?_
  refine mJ_get dX7_closeHint_12 f_X7_12 rfl rfl ?_
  refine mJ_iload_n dX7_closeHint_15 rfl ?_
  refine mJ_bipush (v := 9) dX7_closeHint_16 rfl ?_
  refine mJ_iconst (v := (-1)) dX7_closeHint_18 rfl ?_
  refine mJ_cV3v dX7_closeHint_19 e_X5_putHintValue n_X7_137 ⟨Nat.le_of_ble_eq_true rfl, Nat.le_of_ble_eq_true rfl⟩ rfl rfl (Nat.le_of_ble_eq_true rfl) (C_X5_putHintValue) ?_
  exact mJ_vret dX7_closeHint_22 rfl (rfl) (rfl)
