/-! what is reckoned of known boards: begins -/
theorem fk_10 : s_count (rT tb_0) 0 0 (nI 6) = nI 48 := by decide +kernel
theorem fk_11 : s_count (rT tb_0) 0 0 (nI 7) = nI 48 := by decide +kernel
theorem fk_12 : s_count (rT tb_0) 0 0 (nI 20) = nI 96 := by decide +kernel
theorem fk_13 : s_count (rT tb_0) 0 0 (nI 25) = nI 96 := by decide +kernel
theorem fk_14 : s_count (rT tb_0) 0 0 (nI 4) = nI 24 := by decide +kernel
theorem fk_15 : s_count (rT tb_0) 0 0 (nI 5) = nI 6 := by decide +kernel
theorem fk_16 : s_mvs (rT tb_0) (nI 0) = [48, 50, 159, 161, 228, 265, 302, 339, 376, 413] := by decide +kernel
theorem fk_17 : s_mvs (rT tb_0) (nI 1) = [882, 919, 956, 993, 1030, 1067, 1134, 1136, 1245, 1247] := by decide +kernel
theorem fk_18 : rT tb_0 145 ≤ 0 := by decide +kernel
theorem fk_19 : rT tb_0 144 = nI 0 := by decide +kernel
def tb_2 : Nat := 40815420409098038176749735007627708402260355944349874476362771942067588435020387913973815255673425143892592117248002204356806625614775545365447895926118251641176917599038195820939730119007707441644046822679722918607791642658285762415181216309137223995144338982081468799949391814153165285984555357600726802388927107962515979334806883079036668113931349461112205903544984449599284477824
theorem fk_20 : s_makes (rT tb_0) 1 12 = rT tb_2 := rT_makes (by decide) (by decide) (by decide +kernel)
theorem fk_21 : s_mvs (rT tb_2) (nI 1) = [882, 919, 956, 993, 1030, 1067, 1134, 1136, 1245, 1247] := by decide +kernel
theorem fk_22 : r_one (rT tb_0) 48 = nI 10 := r_one_T (f := 1) (t := 12) fk_20 (by decide +kernel) (by decide +kernel) fk_21 (by decide)
def tb_3 : Nat := 40815420409098038176749735007627708402260355944349874476362771942067588435020387913973815255673425143892592117248002204356806625614775545365447895926118251641176917599038195823508116661119138934487065831126574530466707321651277648570636321186261665647585301752813038553698398843736503147751413469109008335342227630550865917770885967255634436365308008415779802360582824371190019161984
theorem fk_23 : s_makes (rT tb_0) 1 14 = rT tb_3 := rT_makes (by decide) (by decide) (by decide +kernel)
theorem fk_24 : s_mvs (rT tb_3) (nI 1) = [882, 919, 956, 993, 1030, 1067, 1134, 1136, 1245, 1247] := by decide +kernel
theorem fk_25 : r_one (rT tb_0) 50 = nI 10 := r_one_T (f := 1) (t := 14) fk_23 (by decide +kernel) (by decide +kernel) fk_24 (by decide)
def tb_4 : Nat := 40815420409098038176749735007627708402260355944349874476362771942067588435020387913973815255673425143892592117248002204356806625614775545365447895926118251641176917599038196478456678621487910588028282350788905631477749760037982759605109714553905738813410616161383153333160291277586285900361482747297871965386540129157316338026310152451858122745475768081664450609331211071608479318144
theorem fk_26 : s_makes (rT tb_0) 4 15 = rT tb_4 := rT_makes (by decide) (by decide) (by decide +kernel)
theorem fk_27 : s_mvs (rT tb_4) (nI 1) = [882, 919, 956, 993, 1030, 1067, 1134, 1136, 1245, 1247] := by decide +kernel
theorem fk_28 : r_one (rT tb_0) 159 = nI 10 := r_one_T (f := 4) (t := 15) fk_26 (by decide +kernel) (by decide +kernel) fk_27 (by decide)
def tb_5 : Nat := 40815420409098038176749735007627708402260355944349874476362771942067588435020387913973815255673425143892592117248002204356806625614775545365447895926118251641176917599081286854245175203712540372025101004801010821350001847398260239477935884770388137773063138185160867233881129326894126620539609272365040606166917755158045139014623115354929411250116560555625009169869161891003323416704
theorem fk_29 : s_makes (rT tb_0) 4 17 = rT tb_5 := rT_makes (by decide) (by decide) (by decide +kernel)
theorem fk_30 : s_mvs (rT tb_5) (nI 1) = [882, 919, 956, 993, 1030, 1067, 1134, 1136, 1245, 1247] := by decide +kernel
theorem fk_31 : r_one (rT tb_0) 161 = nI 10 := r_one_T (f := 4) (t := 17) fk_29 (by decide +kernel) (by decide +kernel) fk_30 (by decide)
def tb_6 : Nat := 40815420390166119801831422747784847876429726134024134499698900438735991183778317463014524102965979559996396905315608747776265442055043007808303463226148510042275097122791020738351348102797223554771856290988015628886822276040530595610935180739535780844108518552523468116537488864695527777631990852461681790940528567067752518679463064372445127213463750137864575327722167265058229354624
theorem fk_32 : s_makes (rT tb_0) 6 12 = rT tb_6 := rT_makes (by decide) (by decide) (by decide +kernel)
theorem fk_33 : s_mvs (rT tb_6) (nI 1) = [882, 919, 956, 993, 1030, 1067, 1134, 1136, 1245, 1247] := by decide +kernel
theorem fk_34 : r_one (rT tb_0) 228 = nI 10 := r_one_T (f := 6) (t := 12) fk_32 (by decide +kernel) (by decide +kernel) fk_33 (by decide)
def tb_7 : Nat := 40815420390166119801831422747784847876429726134024134499698900438735991183778317463014524102965979559996396905315608747776265442055043007808303463226148510042275097122791020738366338685727834951619251338847421543446120787865282225680991723072542918815544238456742302398281325234896176653202347362703739860142342262146345769195646236550068910117680302437536379675605887803092891631744
theorem fk_35 : s_makes (rT tb_0) 7 13 = rT tb_7 := rT_makes (by decide) (by decide) (by decide +kernel)
theorem fk_36 : s_mvs (rT tb_7) (nI 1) = [882, 919, 956, 993, 1030, 1067, 1134, 1136, 1245, 1247] := by decide +kernel
theorem fk_37 : r_one (rT tb_0) 265 = nI 10 := r_one_T (f := 7) (t := 13) fk_35 (by decide +kernel) (by decide +kernel) fk_36 (by decide)
def tb_8 : Nat := 40815420390166119801831422747784847876429726134024134499698900438735991183778317463014524102965979559996396905315608747776265442055043007808303463226148510042275097122791020742203927915964352544552383590855335670626539815001699523615466560322370239503088533936763878524703436006262288799213613984670605575806648202266217901338538314021757333597117691153518292733838345539966434574464
theorem fk_38 : s_makes (rT tb_0) 8 14 = rT tb_8 := rT_makes (by decide) (by decide) (by decide +kernel)
theorem fk_39 : s_mvs (rT tb_8) (nI 1) = [882, 919, 956, 993, 1030, 1067, 1134, 1136, 1245, 1247] := by decide +kernel
theorem fk_40 : r_one (rT tb_0) 302 = nI 10 := r_one_T (f := 8) (t := 14) fk_38 (by decide +kernel) (by decide +kernel) fk_39 (by decide)
def tb_9 : Nat := 40815420390166119801831422747784847876429726134024134499698900438735991183778317463014524102965979559996396905315608747776265442055043007808303463226148510042275097122791021724626770856512856335434240104881352228813810761924527794841024896278164335514428176822287366888763793475986998178097869208188228785868968872953483729918910146773993744333089202444888035641347526179593427910784
theorem fk_41 : s_makes (rT tb_0) 9 15 = rT tb_9 := rT_makes (by decide) (by decide) (by decide +kernel)
theorem fk_42 : s_mvs (rT tb_9) (nI 1) = [882, 919, 956, 993, 1030, 1067, 1134, 1136, 1245, 1247] := by decide +kernel
theorem fk_43 : r_one (rT tb_0) 339 = nI 10 := r_one_T (f := 9) (t := 15) fk_41 (by decide +kernel) (by decide +kernel) fk_42 (by decide)
def tb_10 : Nat := 40815420390166119801831422747784847876429726134024134499698900438735991183778317463014524102965979559996396905315608747776265442055043007808303463226148510042275097122791273224874563636929826801189507695541591124755173174168565228583958900961452914417376755516300388088215305725512599172467206428699770561823060568893535846494099331346514892741796093035542219963697769924103722008704
theorem fk_44 : s_makes (rT tb_0) 10 16 = rT tb_10 := rT_makes (by decide) (by decide) (by decide +kernel)
theorem fk_45 : s_mvs (rT tb_10) (nI 1) = [882, 919, 956, 993, 1030, 1067, 1134, 1136, 1245, 1247] := by decide +kernel
theorem fk_46 : r_one (rT tb_0) 376 = nI 10 := r_one_T (f := 10) (t := 16) fk_44 (by decide +kernel) (by decide +kernel) fk_45 (by decide)
def tb_11 : Nat := 40815420390166119801831422747784847876429726134024134499698900438735991183778317463014524102965979559996396905315608747776265442055043007808303463226148510042275097122855657288309515423674266034538010904562748485743950708642148266775064099883329113572212901183633815147802441604066453731017534879654465206070534729546877689742530581911928885370760084243013406485360168518739011076224
theorem fk_47 : s_makes (rT tb_0) 11 17 = rT tb_11 := rT_makes (by decide) (by decide) (by decide +kernel)
theorem fk_48 : s_mvs (rT tb_11) (nI 1) = [882, 919, 956, 993, 1030, 1067, 1134, 1136, 1245, 1247] := by decide +kernel
theorem fk_49 : r_one (rT tb_0) 413 = nI 10 := r_one_T (f := 11) (t := 17) fk_47 (by decide +kernel) (by decide +kernel) fk_48 (by decide)
theorem fk_50 : r_sum (rT tb_0) [48, 50, 159, 161, 228, 265, 302, 339, 376, 413] 0 = nI 100 := by
  rw [r_sum, fk_22, r_sum, fk_25, r_sum, fk_28, r_sum, fk_31, r_sum, fk_34, r_sum, fk_37, r_sum, fk_40, r_sum, fk_43, r_sum, fk_46, r_sum, fk_49, r_sum]
  decide
theorem fk_51 : (r_best (rT tb_0) [48, 50, 159, 161, 228, 265, 302, 339, 376, 413] (-4) 0).1 = nI 228 := by decide +kernel
theorem fk_52 : s_refuses (rT tb_0) 6 12 = nI 0 := by decide +kernel
theorem fk_53 : s_refuses (rT tb_0) 12 18 = nI 3 := by decide +kernel
theorem fk_54 : s_refuses (rT tb_0) 24 18 = nI 4 := by decide +kernel
theorem fk_55 : s_refuses (rT tb_0) 0 6 = nI 5 := by decide +kernel
theorem fk_56 : s_refuses (rT tb_0) 0 0 = nI 5 := by decide +kernel
theorem fk_57 : s_refuses (rT tb_0) 6 18 = nI 6 := by decide +kernel
theorem fk_58 : (if (rT tb_0) 6 = -1 then -4 else if s_costOf (rT tb_0) 6 12 < 0 then -4 else s_costOf (rT tb_0) 6 12) = nI 1 := by decide +kernel
theorem fk_59 : (if (rT tb_0) 1 = -1 then -4 else if s_costOf (rT tb_0) 1 12 < 0 then -4 else s_costOf (rT tb_0) 1 12) = nI 2 := by decide +kernel
theorem fk_60 : (if (rT tb_0) 6 = -1 then -4 else if s_costOf (rT tb_0) 6 18 < 0 then -4 else s_costOf (rT tb_0) 6 18) = (-4) := by decide +kernel
theorem fk_61 : (if (rT tb_0) 12 = -1 then -4 else if s_costOf (rT tb_0) 12 18 < 0 then -4 else s_costOf (rT tb_0) 12 18) = (-4) := by decide +kernel
theorem fk_62 : (if (rT tb_0) 0 = -1 then -4 else if s_costOf (rT tb_0) 0 0 < 0 then -4 else s_costOf (rT tb_0) 0 0) = (-4) := by decide +kernel
theorem fk_63 : (if (rT tb_0) 25 = -1 then -4 else if s_costOf (rT tb_0) 25 19 < 0 then -4 else s_costOf (rT tb_0) 25 19) = nI 1 := by decide +kernel
theorem fk_64 : s_stk (s_lays (rT tb_0) 12 (1 - nI 0) 1 0) (nI 0) 12 36 0 0 = nI 2 := by decide +kernel
theorem fk_65 : s_stk (s_lays (rT tb_0) 14 (1 - nI 0) 1 0) (nI 0) 14 36 0 0 = nI 3 := by decide +kernel
theorem fk_66 : ¬ (rT tb_0) 1 = -1 := by decide +kernel
theorem fk_67 : u_cnt (u_iter (s_lays (rT tb_0) 1 (-1) 0 0) (rT tb_0 1) (rT tb_0 (36 + 1)) 0 (u_0 (rT tb_0) (fun _ => 0) 1)) 36 0 0 = nI 1 := by decide +kernel
theorem fk_68 : u_cnt (u_iter (s_lays (rT tb_0) 1 (-1) 0 0) (rT tb_0 1) (rT tb_0 (36 + 1)) 1 (u_0 (rT tb_0) (fun _ => 0) 1)) 36 0 0 = nI 3 := by decide +kernel
theorem fk_69 : u_cnt (u_iter (s_lays (rT tb_0) 1 (-1) 0 0) (rT tb_0 1) (rT tb_0 (36 + 1)) 2 (u_0 (rT tb_0) (fun _ => 0) 1)) 36 0 0 = nI 6 := by decide +kernel
theorem fk_70 : u_cnt (u_iter (s_lays (rT tb_0) 1 (-1) 0 0) (rT tb_0 1) (rT tb_0 (36 + 1)) 12 (u_0 (rT tb_0) (fun _ => 0) 1)) 36 0 0 = nI 6 := by decide +kernel
theorem fk_71 : (rT tb_0) 12 = -1 := by decide +kernel
theorem fk_72 : ¬ s_refusesPass (rT tb_0) = 0 := by decide +kernel
theorem fk_73 : ¬ s_refuses (rT tb_0) 6 18 = 0 := by decide +kernel
theorem fk_74 : s_refuses (rT tb_0) 6 12 = 0 := by decide +kernel
theorem fk_75 : s_costOf (rT tb_0) 6 12 = nI 1 := by decide +kernel
theorem fk_76 : rEq (s_makes (rT tb_0) 6 12) (rT tb_6) 159 = true := by decide +kernel
theorem fk_77 : s_count (rT tb_6) 1 0 (nI 0) = nI 1 := by decide +kernel
theorem fk_78 : s_count (rT tb_6) 1 0 (nI 3) = nI 1 := by decide +kernel
theorem fk_79 : s_count (rT tb_6) 1 0 (nI 6) = nI 47 := by decide +kernel
theorem fk_80 : s_count (rT tb_6) 1 0 (nI 7) = nI 52 := by decide +kernel
theorem fk_81 : s_count (rT tb_6) 1 0 (nI 21) = nI 4 := by decide +kernel
theorem fk_82 : s_count (rT tb_6) 1 0 (nI 23) = nI 1 := by decide +kernel
theorem fk_83 : s_cell (rT tb_6) 30 2 = nI 6 := by decide +kernel
theorem fk_84 : s_refuses (rT tb_6) 25 19 = 0 := by decide +kernel
theorem fk_85 : s_costOf (rT tb_6) 25 19 = nI 1 := by decide +kernel
def tb_12 : Nat := 40815420409099193689345860393923775492250903220653607572157408600726659712827840669687287041029117403104404538542200400322088493260241944770471744306603529219068994815140792995119874473787598793237245283604134951003693906171852242523310660022452433780918733982400602377782285734201383687508151965437582492157039518607189703926669820455303213489688320276800250107798898580101630296192
theorem fk_86 : rEq (s_makes (rT tb_6) 25 19) (rT tb_12) 159 = true := by decide +kernel
theorem fk_87 : s_count (rT tb_12) 2 0 (nI 21) = nI 8 := by decide +kernel
theorem fk_88 : s_refuses (rT tb_12) 12 19 = nI 0 := by decide +kernel
theorem fk_89 : s_refuses (rT tb_12) 12 19 = 0 := by decide +kernel
theorem fk_90 : s_costOf (rT tb_12) 12 19 = nI 1 := by decide +kernel
def tb_13 : Nat := 40815430121248428341188199736872303629628224077452672562366757154966463547851726592097777996760452802215850785884769377618494103324877988722730601015021660049222208236575121977262125256370288713918880527496590412436133795864145317786473367992018236658832497071990713998811484677332902534242364030093051456117998902278308019774446219161125702925607808699802109333322071677765410652288
theorem fk_91 : rEq (s_makes (rT tb_12) 12 19) (rT tb_13) 159 = true := by decide +kernel
theorem fk_92 : s_cell (rT tb_13) 19 2 = nI 4 := by decide +kernel
theorem fk_93 : s_cell (rT tb_13) 19 0 = nI 0 := by decide +kernel
theorem fk_94 : s_cell (rT tb_13) 12 0 = (-4) := by decide +kernel
theorem fk_95 : (if (rT tb_13) 12 = -1 then -4 else s_movesFrom (rT tb_13) 12) = (-4) := by decide +kernel
theorem fk_96 : s_count (rT tb_13) 3 0 (nI 22) = nI 1 := by decide +kernel
theorem fk_97 : s_count (rT tb_13) 3 0 (nI 24) = nI 2 := by decide +kernel
theorem fk_98 : s_count (rT tb_13) 3 0 (nI 23) = nI 3 := by decide +kernel
theorem fk_99 : s_count (rT tb_13) 3 0 (nI 21) = nI 12 := by decide +kernel
theorem fk_100 : s_count (rT tb_13) 3 0 (nI 25) = nI 104 := by decide +kernel
theorem fk_101 : s_count (rT tb_13) 3 0 (nI 4) = nI 23 := by decide +kernel
theorem fk_102 : (rT tb_13) (149 + 0) = nI 9 := by decide +kernel
def tb_14 : Nat := 29698559185785355591328683280269352637562524175096555722455248315661935145678035748704730626475961221096452172709585278614600440747987082882143041806770292559110987380947375276026538878891895097896997919751590131238716071261684484881055303291992241651498151471113782675356237074687618455703026927452231956173803465710522557607059499900883925708363154230414319064626117532249128730752
theorem fk_103 : rEq (s_set (rT tb_13) 0 (nI 3)) (rT tb_14) 159 = true := by decide +kernel
theorem fk_104 : s_cell (rT tb_14) 30 2 = nI 3 := by decide +kernel
theorem fk_105 : s_count (rT tb_14) 4 0 (nI 26) = (-35) := by decide +kernel
theorem fk_106 : s_count (rT tb_14) 4 0 (nI 4) = nI 23 := by decide +kernel
theorem fk_107 : s_count (rT tb_14) 4 0 (nI 25) = nI 69 := by decide +kernel
theorem fk_108 : s_cell (rT tb_13) 30 2 = nI 8 := by decide +kernel
theorem fk_109 : s_allSprings (rT tb_0) = nI 96 := by decide +kernel
theorem fk_110 : rEq (s_begins (rT tb_13)) (rT tb_0) 159 = true := by decide +kernel
theorem fk_111 : s_count (rT tb_0) 4 0 (nI 3) = nI 0 := by decide +kernel
theorem fk_112 : s_count (rT tb_0) 4 0 (nI 21) = nI 0 := by decide +kernel
