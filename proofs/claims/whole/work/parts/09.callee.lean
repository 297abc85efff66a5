/-! what is fixed of each method (printed by wip/gen/calls.py) -/
theorem pf_K_init : plainFor mt_K_init.1 = true := by decide +kernel
theorem iv_K_init : iv_ok mt_K_init 0 := ⟨im_K_init, rfl, rfl, co_K_init, it_K, ⟨by decide +kernel, by decide +kernel, by decide +kernel⟩, by decide⟩
theorem pf_Sh_init : plainFor mt_Sh_init.1 = true := by decide +kernel
theorem iv_Sh_init : iv_ok mt_Sh_init 0 := ⟨im_Sh_init, rfl, rfl, co_Sh_init, it_Sh, ⟨by decide +kernel, by decide +kernel, by decide +kernel⟩, by decide⟩
theorem pf_Ba_init : plainFor mt_Ba_init.1 = true := by decide +kernel
theorem iv_Ba_init : iv_ok mt_Ba_init 0 := ⟨im_Ba_init, rfl, rfl, co_Ba_init, it_Ba, ⟨by decide +kernel, by decide +kernel, by decide +kernel⟩, by decide⟩
theorem pf_St_init : plainFor mt_St_init.1 = true := by decide +kernel
theorem iv_St_init : iv_ok mt_St_init 0 := ⟨im_St_init, rfl, rfl, co_St_init, it_St, ⟨by decide +kernel, by decide +kernel, by decide +kernel⟩, by decide⟩
theorem pf_Ma_init : plainFor mt_Ma_init.1 = true := by decide +kernel
theorem iv_Ma_init : iv_ok mt_Ma_init 0 := ⟨im_Ma_init, rfl, rfl, co_Ma_init, it_Ma, ⟨by decide +kernel, by decide +kernel, by decide +kernel⟩, by decide⟩
theorem pf_Pl_init : plainFor mt_Pl_init.1 = true := by decide +kernel
theorem iv_Pl_init : iv_ok mt_Pl_init 0 := ⟨im_Pl_init, rfl, rfl, co_Pl_init, it_Pl, ⟨by decide +kernel, by decide +kernel, by decide +kernel⟩, by decide⟩
theorem pf_Ta_init : plainFor mt_Ta_init.1 = true := by decide +kernel
theorem iv_Ta_init : iv_ok mt_Ta_init 0 := ⟨im_Ta_init, rfl, rfl, co_Ta_init, it_Ta, ⟨by decide +kernel, by decide +kernel, by decide +kernel⟩, by decide⟩
theorem pf_Re_init : plainFor mt_Re_init.1 = true := by decide +kernel
theorem iv_Re_init : iv_ok mt_Re_init 0 := ⟨im_Re_init, rfl, rfl, co_Re_init, it_Re, ⟨by decide +kernel, by decide +kernel, by decide +kernel⟩, by decide⟩
theorem pf_To_init : plainFor mt_To_init.1 = true := by decide +kernel
theorem iv_To_init : iv_ok mt_To_init 0 := ⟨im_To_init, rfl, rfl, co_To_init, it_To, ⟨by decide +kernel, by decide +kernel, by decide +kernel⟩, by decide⟩
theorem pf_Or_init : plainFor mt_Or_init.1 = true := by decide +kernel
theorem iv_Or_init : iv_ok mt_Or_init 0 := ⟨im_Or_init, rfl, rfl, co_Or_init, it_Or, ⟨by decide +kernel, by decide +kernel, by decide +kernel⟩, by decide⟩
theorem pf_K_air : plainFor mt_K_air.1 = true := by decide +kernel
theorem mv_K_air : mv_ok mt_K_air 2 := ⟨im_K_air, se_K_air, co_K_air, it_K, ⟨by decide +kernel, by decide +kernel, by decide +kernel⟩, by decide⟩
theorem pf_K_isUpTo : plainFor mt_K_isUpTo.1 = true := by decide +kernel
theorem sv_K_isUpTo : sv_ok mt_K_isUpTo 2 := ⟨sm_K_isUpTo, co_K_isUpTo, it_K, ⟨by decide +kernel, by decide +kernel, by decide +kernel⟩, by decide⟩
theorem pf_Pl_spoil : plainFor mt_Pl_spoil.1 = true := by decide +kernel
theorem mv_Pl_spoil : mv_ok mt_Pl_spoil 0 := ⟨im_Pl_spoil, se_Pl_spoil, co_Pl_spoil, it_Pl, ⟨by decide +kernel, by decide +kernel, by decide +kernel⟩, by decide⟩
theorem pf_K_damp : plainFor mt_K_damp.1 = true := by decide +kernel
theorem mv_K_damp : mv_ok mt_K_damp 2 := ⟨im_K_damp, se_K_damp, co_K_damp, it_K, ⟨by decide +kernel, by decide +kernel, by decide +kernel⟩, by decide⟩
theorem pf_K_milk : plainFor mt_K_milk.1 = true := by decide +kernel
theorem mv_K_milk : mv_ok mt_K_milk 2 := ⟨im_K_milk, se_K_milk, co_K_milk, it_K, ⟨by decide +kernel, by decide +kernel, by decide +kernel⟩, by decide⟩
theorem pf_Mi_init : plainFor mt_Mi_init.1 = true := by decide +kernel
theorem iv_Mi_init : iv_ok mt_Mi_init 2 := ⟨im_Mi_init, rfl, rfl, co_Mi_init, it_Mi, ⟨by decide +kernel, by decide +kernel, by decide +kernel⟩, by decide⟩
theorem pf_K_wheel : plainFor mt_K_wheel.1 = true := by decide +kernel
theorem mv_K_wheel : mv_ok mt_K_wheel 8 := ⟨im_K_wheel, se_K_wheel, co_K_wheel, it_K, ⟨by decide +kernel, by decide +kernel, by decide +kernel⟩, by decide⟩
theorem pf_Sh_hasRoom : plainFor mt_Sh_hasRoom.1 = true := by decide +kernel
theorem mv_Sh_hasRoom : mv_ok mt_Sh_hasRoom 1 := ⟨im_Sh_hasRoom, se_Sh_hasRoom, co_Sh_hasRoom, it_Sh, ⟨by decide +kernel, by decide +kernel, by decide +kernel⟩, by decide⟩
theorem pf_Sh_roomAt : plainFor mt_Sh_roomAt.1 = true := by decide +kernel
theorem mv_Sh_roomAt : mv_ok mt_Sh_roomAt 1 := ⟨im_Sh_roomAt, se_Sh_roomAt, co_Sh_roomAt, it_Sh, ⟨by decide +kernel, by decide +kernel, by decide +kernel⟩, by decide⟩
theorem pf_K_areMilksThere : plainFor mt_K_areMilksThere.1 = true := by decide +kernel
theorem mv_K_areMilksThere : mv_ok mt_K_areMilksThere 0 := ⟨im_K_areMilksThere, se_K_areMilksThere, co_K_areMilksThere, it_K, ⟨by decide +kernel, by decide +kernel, by decide +kernel⟩, by decide⟩
theorem pf_K_isMilkThere : plainFor mt_K_isMilkThere.1 = true := by decide +kernel
theorem mv_K_isMilkThere : mv_ok mt_K_isMilkThere 1 := ⟨im_K_isMilkThere, se_K_isMilkThere, co_K_isMilkThere, it_K, ⟨by decide +kernel, by decide +kernel, by decide +kernel⟩, by decide⟩
theorem pf_K_milkAt : plainFor mt_K_milkAt.1 = true := by decide +kernel
theorem mv_K_milkAt : mv_ok mt_K_milkAt 1 := ⟨im_K_milkAt, se_K_milkAt, co_K_milkAt, it_K, ⟨by decide +kernel, by decide +kernel, by decide +kernel⟩, by decide⟩
theorem pf_St_haveRoomFor : plainFor mt_St_haveRoomFor.1 = true := by decide +kernel
theorem mv_St_haveRoomFor : mv_ok mt_St_haveRoomFor 1 := ⟨im_St_haveRoomFor, se_St_haveRoomFor, co_St_haveRoomFor, it_St, ⟨by decide +kernel, by decide +kernel, by decide +kernel⟩, by decide⟩
theorem pf_K_makeWheel : plainFor mt_K_makeWheel.1 = true := by decide +kernel
theorem mv_K_makeWheel : mv_ok mt_K_makeWheel 2 := ⟨im_K_makeWheel, se_K_makeWheel, co_K_makeWheel, it_K, ⟨by decide +kernel, by decide +kernel, by decide +kernel⟩, by decide⟩
theorem pf_Wh_init : plainFor mt_Wh_init.1 = true := by decide +kernel
theorem iv_Wh_init : iv_ok mt_Wh_init 3 := ⟨im_Wh_init, rfl, rfl, co_Wh_init, it_Wh, ⟨by decide +kernel, by decide +kernel, by decide +kernel⟩, by decide⟩
theorem pf_K_layOn : plainFor mt_K_layOn.1 = true := by decide +kernel
theorem mv_K_layOn : mv_ok mt_K_layOn 2 := ⟨im_K_layOn, se_K_layOn, co_K_layOn, it_K, ⟨by decide +kernel, by decide +kernel, by decide +kernel⟩, by decide⟩
theorem pf_St_begin : plainFor mt_St_begin.1 = true := by decide +kernel
theorem mv_St_begin : mv_ok mt_St_begin 3 := ⟨im_St_begin, se_St_begin, co_St_begin, it_St, ⟨by decide +kernel, by decide +kernel, by decide +kernel⟩, by decide⟩
theorem pf_Sh_lay : plainFor mt_Sh_lay.1 = true := by decide +kernel
theorem mv_Sh_lay : mv_ok mt_Sh_lay 1 := ⟨im_Sh_lay, se_Sh_lay, co_Sh_lay, it_Sh, ⟨by decide +kernel, by decide +kernel, by decide +kernel⟩, by decide⟩
theorem pf_K_sell : plainFor mt_K_sell.1 = true := by decide +kernel
theorem mv_K_sell : mv_ok mt_K_sell 1 := ⟨im_K_sell, se_K_sell, co_K_sell, it_K, ⟨by decide +kernel, by decide +kernel, by decide +kernel⟩, by decide⟩
theorem pf_K_lyingWheel : plainFor mt_K_lyingWheel.1 = true := by decide +kernel
theorem mv_K_lyingWheel : mv_ok mt_K_lyingWheel 1 := ⟨im_K_lyingWheel, se_K_lyingWheel, co_K_lyingWheel, it_K, ⟨by decide +kernel, by decide +kernel, by decide +kernel⟩, by decide⟩
theorem pf_K_wheelAt : plainFor mt_K_wheelAt.1 = true := by decide +kernel
theorem mv_K_wheelAt : mv_ok mt_K_wheelAt 1 := ⟨im_K_wheelAt, se_K_wheelAt, co_K_wheelAt, it_K, ⟨by decide +kernel, by decide +kernel, by decide +kernel⟩, by decide⟩
theorem pf_St_finish : plainFor mt_St_finish.1 = true := by decide +kernel
theorem mv_St_finish : mv_ok mt_St_finish 2 := ⟨im_St_finish, se_St_finish, co_St_finish, it_St, ⟨by decide +kernel, by decide +kernel, by decide +kernel⟩, by decide⟩
theorem pf_Sh_lift : plainFor mt_Sh_lift.1 = true := by decide +kernel
theorem mv_Sh_lift : mv_ok mt_Sh_lift 1 := ⟨im_Sh_lift, se_Sh_lift, co_Sh_lift, it_Sh, ⟨by decide +kernel, by decide +kernel, by decide +kernel⟩, by decide⟩
theorem pf_K_feed : plainFor mt_K_feed.1 = true := by decide +kernel
theorem mv_K_feed : mv_ok mt_K_feed 5 := ⟨im_K_feed, se_K_feed, co_K_feed, it_K, ⟨by decide +kernel, by decide +kernel, by decide +kernel⟩, by decide⟩
theorem pf_Ta_take : plainFor mt_Ta_take.1 = true := by decide +kernel
theorem mv_Ta_take : mv_ok mt_Ta_take 1 := ⟨im_Ta_take, se_Ta_take, co_Ta_take, it_Ta, ⟨by decide +kernel, by decide +kernel, by decide +kernel⟩, by decide⟩
theorem pf_K_end : plainFor mt_K_end.1 = true := by decide +kernel
theorem mv_K_end : mv_ok mt_K_end 1 := ⟨im_K_end, se_K_end, co_K_end, it_K, ⟨by decide +kernel, by decide +kernel, by decide +kernel⟩, by decide⟩
theorem pf_K_orders : plainFor mt_K_orders.1 = true := by decide +kernel
theorem mv_K_orders : mv_ok mt_K_orders 0 := ⟨im_K_orders, se_K_orders, co_K_orders, it_K, ⟨by decide +kernel, by decide +kernel, by decide +kernel⟩, by decide⟩
theorem pf_Re_read : plainFor mt_Re_read.1 = true := by decide +kernel
theorem mv_Re_read : mv_ok mt_Re_read 2 := ⟨im_Re_read, se_Re_read, co_Re_read, it_Re, ⟨by decide +kernel, by decide +kernel, by decide +kernel⟩, by decide⟩
theorem pf_To_cut : plainFor mt_To_cut.1 = true := by decide +kernel
theorem mv_To_cut : mv_ok mt_To_cut 1 := ⟨im_To_cut, se_To_cut, co_To_cut, it_To, ⟨by decide +kernel, by decide +kernel, by decide +kernel⟩, by decide⟩
theorem pf_To_behindBlanks : plainFor mt_To_behindBlanks.1 = true := by decide +kernel
theorem sv_To_behindBlanks : sv_ok mt_To_behindBlanks 2 := ⟨sm_To_behindBlanks, co_To_behindBlanks, it_To, ⟨by decide +kernel, by decide +kernel, by decide +kernel⟩, by decide⟩
theorem pf_Ta_byteAt : plainFor mt_Ta_byteAt.1 = true := by decide +kernel
theorem mv_Ta_byteAt : mv_ok mt_Ta_byteAt 1 := ⟨im_Ta_byteAt, se_Ta_byteAt, co_Ta_byteAt, it_Ta, ⟨by decide +kernel, by decide +kernel, by decide +kernel⟩, by decide⟩
theorem pf_To_kindOf : plainFor mt_To_kindOf.1 = true := by decide +kernel
theorem sv_To_kindOf : sv_ok mt_To_kindOf 2 := ⟨sm_To_kindOf, co_To_kindOf, it_To, ⟨by decide +kernel, by decide +kernel, by decide +kernel⟩, by decide⟩
theorem pf_To_lengthAt : plainFor mt_To_lengthAt.1 = true := by decide +kernel
theorem sv_To_lengthAt : sv_ok mt_To_lengthAt 2 := ⟨sm_To_lengthAt, co_To_lengthAt, it_To, ⟨by decide +kernel, by decide +kernel, by decide +kernel⟩, by decide⟩
theorem pf_To_isSameSort : plainFor mt_To_isSameSort.1 = true := by decide +kernel
theorem sv_To_isSameSort : sv_ok mt_To_isSameSort 2 := ⟨sm_To_isSameSort, co_To_isSameSort, it_To, ⟨by decide +kernel, by decide +kernel, by decide +kernel⟩, by decide⟩
theorem pf_To_isLetter : plainFor mt_To_isLetter.1 = true := by decide +kernel
theorem sv_To_isLetter : sv_ok mt_To_isLetter 1 := ⟨sm_To_isLetter, co_To_isLetter, it_To, ⟨by decide +kernel, by decide +kernel, by decide +kernel⟩, by decide⟩
theorem pf_To_isDigit : plainFor mt_To_isDigit.1 = true := by decide +kernel
theorem sv_To_isDigit : sv_ok mt_To_isDigit 1 := ⟨sm_To_isDigit, co_To_isDigit, it_To, ⟨by decide +kernel, by decide +kernel, by decide +kernel⟩, by decide⟩
theorem pf_To_wordAt : plainFor mt_To_wordAt.1 = true := by decide +kernel
theorem sv_To_wordAt : sv_ok mt_To_wordAt 3 := ⟨sm_To_wordAt, co_To_wordAt, it_To, ⟨by decide +kernel, by decide +kernel, by decide +kernel⟩, by decide⟩
theorem pf_To_isWord : plainFor mt_To_isWord.1 = true := by decide +kernel
theorem sv_To_isWord : sv_ok mt_To_isWord 4 := ⟨sm_To_isWord, co_To_isWord, it_To, ⟨by decide +kernel, by decide +kernel, by decide +kernel⟩, by decide⟩
theorem pf_To_isSign : plainFor mt_To_isSign.1 = true := by decide +kernel
theorem sv_To_isSign : sv_ok mt_To_isSign 1 := ⟨sm_To_isSign, co_To_isSign, it_To, ⟨by decide +kernel, by decide +kernel, by decide +kernel⟩, by decide⟩
theorem pf_To_numberOf : plainFor mt_To_numberOf.1 = true := by decide +kernel
theorem sv_To_numberOf : sv_ok mt_To_numberOf 2 := ⟨sm_To_numberOf, co_To_numberOf, it_To, ⟨by decide +kernel, by decide +kernel, by decide +kernel⟩, by decide⟩
theorem pf_Re_step : plainFor mt_Re_step.1 = true := by decide +kernel
theorem mv_Re_step : mv_ok mt_Re_step 0 := ⟨im_Re_step, se_Re_step, co_Re_step, it_Re, ⟨by decide +kernel, by decide +kernel, by decide +kernel⟩, by decide⟩
theorem pf_Or_clear : plainFor mt_Or_clear.1 = true := by decide +kernel
theorem mv_Or_clear : mv_ok mt_Or_clear 0 := ⟨im_Or_clear, se_Or_clear, co_Or_clear, it_Or, ⟨by decide +kernel, by decide +kernel, by decide +kernel⟩, by decide⟩
theorem pf_Re_readLine : plainFor mt_Re_readLine.1 = true := by decide +kernel
theorem mv_Re_readLine : mv_ok mt_Re_readLine 1 := ⟨im_Re_readLine, se_Re_readLine, co_Re_readLine, it_Re, ⟨by decide +kernel, by decide +kernel, by decide +kernel⟩, by decide⟩
theorem pf_Re_pass : plainFor mt_Re_pass.1 = true := by decide +kernel
theorem mv_Re_pass : mv_ok mt_Re_pass 1 := ⟨im_Re_pass, se_Re_pass, co_Re_pass, it_Re, ⟨by decide +kernel, by decide +kernel, by decide +kernel⟩, by decide⟩
theorem pf_Re_refuse : plainFor mt_Re_refuse.1 = true := by decide +kernel
theorem mv_Re_refuse : mv_ok mt_Re_refuse 1 := ⟨im_Re_refuse, se_Re_refuse, co_Re_refuse, it_Re, ⟨by decide +kernel, by decide +kernel, by decide +kernel⟩, by decide⟩
theorem pf_Re_readJoined : plainFor mt_Re_readJoined.1 = true := by decide +kernel
theorem mv_Re_readJoined : mv_ok mt_Re_readJoined 3 := ⟨im_Re_readJoined, se_Re_readJoined, co_Re_readJoined, it_Re, ⟨by decide +kernel, by decide +kernel, by decide +kernel⟩, by decide⟩
theorem pf_Re_readOne : plainFor mt_Re_readOne.1 = true := by decide +kernel
theorem mv_Re_readOne : mv_ok mt_Re_readOne 2 := ⟨im_Re_readOne, se_Re_readOne, co_Re_readOne, it_Re, ⟨by decide +kernel, by decide +kernel, by decide +kernel⟩, by decide⟩
theorem pf_Or_addItem : plainFor mt_Or_addItem.1 = true := by decide +kernel
theorem mv_Or_addItem : mv_ok mt_Or_addItem 1 := ⟨im_Or_addItem, se_Or_addItem, co_Or_addItem, it_Or, ⟨by decide +kernel, by decide +kernel, by decide +kernel⟩, by decide⟩
theorem pf_Re_readComparison : plainFor mt_Re_readComparison.1 = true := by decide +kernel
theorem mv_Re_readComparison : mv_ok mt_Re_readComparison 2 := ⟨im_Re_readComparison, se_Re_readComparison, co_Re_readComparison, it_Re, ⟨by decide +kernel, by decide +kernel, by decide +kernel⟩, by decide⟩
theorem pf_Re_readTerm : plainFor mt_Re_readTerm.1 = true := by decide +kernel
theorem mv_Re_readTerm : mv_ok mt_Re_readTerm 2 := ⟨im_Re_readTerm, se_Re_readTerm, co_Re_readTerm, it_Re, ⟨by decide +kernel, by decide +kernel, by decide +kernel⟩, by decide⟩
theorem pf_Re_isJoint : plainFor mt_Re_isJoint.1 = true := by decide +kernel
theorem mv_Re_isJoint : mv_ok mt_Re_isJoint 1 := ⟨im_Re_isJoint, se_Re_isJoint, co_Re_isJoint, it_Re, ⟨by decide +kernel, by decide +kernel, by decide +kernel⟩, by decide⟩
theorem pf_Or_closeLine : plainFor mt_Or_closeLine.1 = true := by decide +kernel
theorem mv_Or_closeLine : mv_ok mt_Or_closeLine 1 := ⟨im_Or_closeLine, se_Or_closeLine, co_Or_closeLine, it_Or, ⟨by decide +kernel, by decide +kernel, by decide +kernel⟩, by decide⟩
theorem pf_K_fault : plainFor mt_K_fault.1 = true := by decide +kernel
theorem mv_K_fault : mv_ok mt_K_fault 1 := ⟨im_K_fault, se_K_fault, co_K_fault, it_K, ⟨by decide +kernel, by decide +kernel, by decide +kernel⟩, by decide⟩
theorem pf_K_days : plainFor mt_K_days.1 = true := by decide +kernel
theorem mv_K_days : mv_ok mt_K_days 1 := ⟨im_K_days, se_K_days, co_K_days, it_K, ⟨by decide +kernel, by decide +kernel, by decide +kernel⟩, by decide⟩
theorem pf_JM_min : plainFor mt_JM_min.1 = true := by decide +kernel
theorem sv_JM_min : sv_ok mt_JM_min 2 := ⟨sm_JM_min, co_JM_min, it_JM, ⟨by decide +kernel, by decide +kernel, by decide +kernel⟩, by decide⟩
theorem pf_K_passDay : plainFor mt_K_passDay.1 = true := by decide +kernel
theorem mv_K_passDay : mv_ok mt_K_passDay 0 := ⟨im_K_passDay, se_K_passDay, co_K_passDay, it_K, ⟨by decide +kernel, by decide +kernel, by decide +kernel⟩, by decide⟩
theorem pf_Sh_airAt : plainFor mt_Sh_airAt.1 = true := by decide +kernel
theorem mv_Sh_airAt : mv_ok mt_Sh_airAt 1 := ⟨im_Sh_airAt, se_Sh_airAt, co_Sh_airAt, it_Sh, ⟨by decide +kernel, by decide +kernel, by decide +kernel⟩, by decide⟩
theorem pf_Sh_dampAt : plainFor mt_Sh_dampAt.1 = true := by decide +kernel
theorem mv_Sh_dampAt : mv_ok mt_Sh_dampAt 1 := ⟨im_Sh_dampAt, se_Sh_dampAt, co_Sh_dampAt, it_Sh, ⟨by decide +kernel, by decide +kernel, by decide +kernel⟩, by decide⟩
theorem pf_Or_obeyFor : plainFor mt_Or_obeyFor.1 = true := by decide +kernel
theorem mv_Or_obeyFor : mv_ok mt_Or_obeyFor 4 := ⟨im_Or_obeyFor, se_Or_obeyFor, co_Or_obeyFor, it_Or, ⟨by decide +kernel, by decide +kernel, by decide +kernel⟩, by decide⟩
theorem pf_Or_nameThings : plainFor mt_Or_nameThings.1 = true := by decide +kernel
theorem mv_Or_nameThings : mv_ok mt_Or_nameThings 2 := ⟨im_Or_nameThings, se_Or_nameThings, co_Or_nameThings, it_Or, ⟨by decide +kernel, by decide +kernel, by decide +kernel⟩, by decide⟩
theorem pf_Or_workOut : plainFor mt_Or_workOut.1 = true := by decide +kernel
theorem mv_Or_workOut : mv_ok mt_Or_workOut 2 := ⟨im_Or_workOut, se_Or_workOut, co_Or_workOut, it_Or, ⟨by decide +kernel, by decide +kernel, by decide +kernel⟩, by decide⟩
theorem pf_Or_put : plainFor mt_Or_put.1 = true := by decide +kernel
theorem mv_Or_put : mv_ok mt_Or_put 1 := ⟨im_Or_put, se_Or_put, co_Or_put, it_Or, ⟨by decide +kernel, by decide +kernel, by decide +kernel⟩, by decide⟩
theorem pf_Or_applyToken : plainFor mt_Or_applyToken.1 = true := by decide +kernel
theorem mv_Or_applyToken : mv_ok mt_Or_applyToken 1 := ⟨im_Or_applyToken, se_Or_applyToken, co_Or_applyToken, it_Or, ⟨by decide +kernel, by decide +kernel, by decide +kernel⟩, by decide⟩
theorem pf_Or_pick : plainFor mt_Or_pick.1 = true := by decide +kernel
theorem mv_Or_pick : mv_ok mt_Or_pick 0 := ⟨im_Or_pick, se_Or_pick, co_Or_pick, it_Or, ⟨by decide +kernel, by decide +kernel, by decide +kernel⟩, by decide⟩
theorem pf_Or_join : plainFor mt_Or_join.1 = true := by decide +kernel
theorem sv_Or_join : sv_ok mt_Or_join 3 := ⟨sm_Or_join, co_Or_join, it_Or, ⟨by decide +kernel, by decide +kernel, by decide +kernel⟩, by decide⟩
theorem pf_Wh_doDeed : plainFor mt_Wh_doDeed.1 = true := by decide +kernel
theorem mv_Wh_doDeed : mv_ok mt_Wh_doDeed 1 := ⟨im_Wh_doDeed, se_Wh_doDeed, co_Wh_doDeed, it_Wh, ⟨by decide +kernel, by decide +kernel, by decide +kernel⟩, by decide⟩
theorem pf_Wh_within : plainFor mt_Wh_within.1 = true := by decide +kernel
theorem sv_Wh_within : sv_ok mt_Wh_within 1 := ⟨sm_Wh_within, co_Wh_within, it_Wh, ⟨by decide +kernel, by decide +kernel, by decide +kernel⟩, by decide⟩
theorem pf_JM_max : plainFor mt_JM_max.1 = true := by decide +kernel
theorem sv_JM_max : sv_ok mt_JM_max 2 := ⟨sm_JM_max, co_JM_max, it_JM, ⟨by decide +kernel, by decide +kernel, by decide +kernel⟩, by decide⟩
theorem pf_Wh_ripen : plainFor mt_Wh_ripen.1 = true := by decide +kernel
theorem mv_Wh_ripen : mv_ok mt_Wh_ripen 2 := ⟨im_Wh_ripen, se_Wh_ripen, co_Wh_ripen, it_Wh, ⟨by decide +kernel, by decide +kernel, by decide +kernel⟩, by decide⟩
theorem pf_Wh_ripeningBy : plainFor mt_Wh_ripeningBy.1 = true := by decide +kernel
theorem mv_Wh_ripeningBy : mv_ok mt_Wh_ripeningBy 2 := ⟨im_Wh_ripeningBy, se_Wh_ripeningBy, co_Wh_ripeningBy, it_Wh, ⟨by decide +kernel, by decide +kernel, by decide +kernel⟩, by decide⟩
theorem pf_K_of : plainFor mt_K_of.1 = true := by decide +kernel
theorem mv_K_of : mv_ok mt_K_of 2 := ⟨im_K_of, se_K_of, co_K_of, it_K, ⟨by decide +kernel, by decide +kernel, by decide +kernel⟩, by decide⟩
theorem pf_K_ageOf : plainFor mt_K_ageOf.1 = true := by decide +kernel
theorem mv_K_ageOf : mv_ok mt_K_ageOf 1 := ⟨im_K_ageOf, se_K_ageOf, co_K_ageOf, it_K, ⟨by decide +kernel, by decide +kernel, by decide +kernel⟩, by decide⟩
theorem pf_K_isSuited : plainFor mt_K_isSuited.1 = true := by decide +kernel
theorem mv_K_isSuited : mv_ok mt_K_isSuited 2 := ⟨im_K_isSuited, se_K_isSuited, co_K_isSuited, it_K, ⟨by decide +kernel, by decide +kernel, by decide +kernel⟩, by decide⟩
theorem pf_Ba_allow : plainFor mt_Ba_allow.1 = true := by decide +kernel
theorem mv_Ba_allow : mv_ok mt_Ba_allow 3 := ⟨im_Ba_allow, se_Ba_allow, co_Ba_allow, it_Ba, ⟨by decide +kernel, by decide +kernel, by decide +kernel⟩, by decide⟩
theorem pf_Ba_placeFor : plainFor mt_Ba_placeFor.1 = true := by decide +kernel
theorem mv_Ba_placeFor : mv_ok mt_Ba_placeFor 2 := ⟨im_Ba_placeFor, se_Ba_placeFor, co_Ba_placeFor, it_Ba, ⟨by decide +kernel, by decide +kernel, by decide +kernel⟩, by decide⟩
theorem pf_K_from : plainFor mt_K_from.1 = true := by decide +kernel
theorem mv_K_from : mv_ok mt_K_from 2 := ⟨im_K_from, se_K_from, co_K_from, it_K, ⟨by decide +kernel, by decide +kernel, by decide +kernel⟩, by decide⟩
theorem pf_K_band : plainFor mt_K_band.1 = true := by decide +kernel
theorem mv_K_band : mv_ok mt_K_band 4 := ⟨im_K_band, se_K_band, co_K_band, it_K, ⟨by decide +kernel, by decide +kernel, by decide +kernel⟩, by decide⟩
theorem pf_Ba_haveRoomFor : plainFor mt_Ba_haveRoomFor.1 = true := by decide +kernel
theorem mv_Ba_haveRoomFor : mv_ok mt_Ba_haveRoomFor 1 := ⟨im_Ba_haveRoomFor, se_Ba_haveRoomFor, co_Ba_haveRoomFor, it_Ba, ⟨by decide +kernel, by decide +kernel, by decide +kernel⟩, by decide⟩
theorem pf_Ba_keep : plainFor mt_Ba_keep.1 = true := by decide +kernel
theorem mv_Ba_keep : mv_ok mt_Ba_keep 4 := ⟨im_Ba_keep, se_Ba_keep, co_Ba_keep, it_Ba, ⟨by decide +kernel, by decide +kernel, by decide +kernel⟩, by decide⟩
theorem pf_K_suits : plainFor mt_K_suits.1 = true := by decide +kernel
theorem mv_K_suits : mv_ok mt_K_suits 2 := ⟨im_K_suits, se_K_suits, co_K_suits, it_K, ⟨by decide +kernel, by decide +kernel, by decide +kernel⟩, by decide⟩
theorem pf_K_move : plainFor mt_K_move.1 = true := by decide +kernel
theorem mv_K_move : mv_ok mt_K_move 2 := ⟨im_K_move, se_K_move, co_K_move, it_K, ⟨by decide +kernel, by decide +kernel, by decide +kernel⟩, by decide⟩
theorem pf_K_takeTo : plainFor mt_K_takeTo.1 = true := by decide +kernel
theorem mv_K_takeTo : mv_ok mt_K_takeTo 2 := ⟨im_K_takeTo, se_K_takeTo, co_K_takeTo, it_K, ⟨by decide +kernel, by decide +kernel, by decide +kernel⟩, by decide⟩
theorem pf_K_plan : plainFor mt_K_plan.1 = true := by decide +kernel
theorem mv_K_plan : mv_ok mt_K_plan 0 := ⟨im_K_plan, se_K_plan, co_K_plan, it_K, ⟨by decide +kernel, by decide +kernel, by decide +kernel⟩, by decide⟩
theorem pf_Pl_start : plainFor mt_Pl_start.1 = true := by decide +kernel
theorem mv_Pl_start : mv_ok mt_Pl_start 1 := ⟨im_Pl_start, se_Pl_start, co_Pl_start, it_Pl, ⟨by decide +kernel, by decide +kernel, by decide +kernel⟩, by decide⟩
theorem pf_JA_fill_J : plainFor mt_JA_fill_J.1 = true := by decide +kernel
theorem sv_JA_fill_J : sv_ok mt_JA_fill_J 2 := ⟨sm_JA_fill_J, co_JA_fill_J, it_JA, ⟨by decide +kernel, by decide +kernel, by decide +kernel⟩, by decide⟩
theorem pf_Pl_isFull : plainFor mt_Pl_isFull.1 = true := by decide +kernel
theorem mv_Pl_isFull : mv_ok mt_Pl_isFull 0 := ⟨im_Pl_isFull, se_Pl_isFull, co_Pl_isFull, it_Pl, ⟨by decide +kernel, by decide +kernel, by decide +kernel⟩, by decide⟩
theorem pf_K_askPlanFor : plainFor mt_K_askPlanFor.1 = true := by decide +kernel
theorem mv_K_askPlanFor : mv_ok mt_K_askPlanFor 1 := ⟨im_K_askPlanFor, se_K_askPlanFor, co_K_askPlanFor, it_K, ⟨by decide +kernel, by decide +kernel, by decide +kernel⟩, by decide⟩
theorem pf_Pl_ask : plainFor mt_Pl_ask.1 = true := by decide +kernel
theorem mv_Pl_ask : mv_ok mt_Pl_ask 2 := ⟨im_Pl_ask, se_Pl_ask, co_Pl_ask, it_Pl, ⟨by decide +kernel, by decide +kernel, by decide +kernel⟩, by decide⟩
theorem pf_Pl_allowLast : plainFor mt_Pl_allowLast.1 = true := by decide +kernel
theorem mv_Pl_allowLast : mv_ok mt_Pl_allowLast 1 := ⟨im_Pl_allowLast, se_Pl_allowLast, co_Pl_allowLast, it_Pl, ⟨by decide +kernel, by decide +kernel, by decide +kernel⟩, by decide⟩
theorem pf_Pl_wayBetween : plainFor mt_Pl_wayBetween.1 = true := by decide +kernel
theorem sv_Pl_wayBetween : sv_ok mt_Pl_wayBetween 2 := ⟨sm_Pl_wayBetween, co_Pl_wayBetween, it_Pl, ⟨by decide +kernel, by decide +kernel, by decide +kernel⟩, by decide⟩
theorem pf_JM_abs : plainFor mt_JM_abs.1 = true := by decide +kernel
theorem sv_JM_abs : sv_ok mt_JM_abs 1 := ⟨sm_JM_abs, co_JM_abs, it_JM, ⟨by decide +kernel, by decide +kernel, by decide +kernel⟩, by decide⟩
theorem pf_Pl_findBest : plainFor mt_Pl_findBest.1 = true := by decide +kernel
theorem mv_Pl_findBest : mv_ok mt_Pl_findBest 0 := ⟨im_Pl_findBest, se_Pl_findBest, co_Pl_findBest, it_Pl, ⟨by decide +kernel, by decide +kernel, by decide +kernel⟩, by decide⟩
theorem pf_Pl_placeRow : plainFor mt_Pl_placeRow.1 = true := by decide +kernel
theorem mv_Pl_placeRow : mv_ok mt_Pl_placeRow 1 := ⟨im_Pl_placeRow, se_Pl_placeRow, co_Pl_placeRow, it_Pl, ⟨by decide +kernel, by decide +kernel, by decide +kernel⟩, by decide⟩
theorem pf_Pl_spread : plainFor mt_Pl_spread.1 = true := by decide +kernel
theorem mv_Pl_spread : mv_ok mt_Pl_spread 1 := ⟨im_Pl_spread, se_Pl_spread, co_Pl_spread, it_Pl, ⟨by decide +kernel, by decide +kernel, by decide +kernel⟩, by decide⟩
theorem pf_Pl_cheapestWithRoom : plainFor mt_Pl_cheapestWithRoom.1 = true := by decide +kernel
theorem mv_Pl_cheapestWithRoom : mv_ok mt_Pl_cheapestWithRoom 0 := ⟨im_Pl_cheapestWithRoom, se_Pl_cheapestWithRoom, co_Pl_cheapestWithRoom, it_Pl, ⟨by decide +kernel, by decide +kernel, by decide +kernel⟩, by decide⟩
theorem pf_Pl_shiftChain : plainFor mt_Pl_shiftChain.1 = true := by decide +kernel
theorem mv_Pl_shiftChain : mv_ok mt_Pl_shiftChain 2 := ⟨im_Pl_shiftChain, se_Pl_shiftChain, co_Pl_shiftChain, it_Pl, ⟨by decide +kernel, by decide +kernel, by decide +kernel⟩, by decide⟩
theorem pf_Pl_keepPlan : plainFor mt_Pl_keepPlan.1 = true := by decide +kernel
theorem mv_Pl_keepPlan : mv_ok mt_Pl_keepPlan 0 := ⟨im_Pl_keepPlan, se_Pl_keepPlan, co_Pl_keepPlan, it_Pl, ⟨by decide +kernel, by decide +kernel, by decide +kernel⟩, by decide⟩
theorem pf_JA_fill_I : plainFor mt_JA_fill_I.1 = true := by decide +kernel
theorem sv_JA_fill_I : sv_ok mt_JA_fill_I 2 := ⟨sm_JA_fill_I, co_JA_fill_I, it_JA, ⟨by decide +kernel, by decide +kernel, by decide +kernel⟩, by decide⟩
theorem pf_K_planned : plainFor mt_K_planned.1 = true := by decide +kernel
theorem mv_K_planned : mv_ok mt_K_planned 1 := ⟨im_K_planned, se_K_planned, co_K_planned, it_K, ⟨by decide +kernel, by decide +kernel, by decide +kernel⟩, by decide⟩
theorem pf_Pl_shelfFor : plainFor mt_Pl_shelfFor.1 = true := by decide +kernel
theorem mv_Pl_shelfFor : mv_ok mt_Pl_shelfFor 1 := ⟨im_Pl_shelfFor, se_Pl_shelfFor, co_Pl_shelfFor, it_Pl, ⟨by decide +kernel, by decide +kernel, by decide +kernel⟩, by decide⟩
theorem pf_K_carry : plainFor mt_K_carry.1 = true := by decide +kernel
theorem mv_K_carry : mv_ok mt_K_carry 0 := ⟨im_K_carry, se_K_carry, co_K_carry, it_K, ⟨by decide +kernel, by decide +kernel, by decide +kernel⟩, by decide⟩
theorem pf_Pl_canBeCarried : plainFor mt_Pl_canBeCarried.1 = true := by decide +kernel
theorem mv_Pl_canBeCarried : mv_ok mt_Pl_canBeCarried 0 := ⟨im_Pl_canBeCarried, se_Pl_canBeCarried, co_Pl_canBeCarried, it_Pl, ⟨by decide +kernel, by decide +kernel, by decide +kernel⟩, by decide⟩
theorem pf_Pl_forget : plainFor mt_Pl_forget.1 = true := by decide +kernel
theorem mv_Pl_forget : mv_ok mt_Pl_forget 0 := ⟨im_Pl_forget, se_Pl_forget, co_Pl_forget, it_Pl, ⟨by decide +kernel, by decide +kernel, by decide +kernel⟩, by decide⟩
theorem pf_K_mark : plainFor mt_K_mark.1 = true := by decide +kernel
theorem mv_K_mark : mv_ok mt_K_mark 3 := ⟨im_K_mark, se_K_mark, co_K_mark, it_K, ⟨by decide +kernel, by decide +kernel, by decide +kernel⟩, by decide⟩
theorem pf_Ma_areFull : plainFor mt_Ma_areFull.1 = true := by decide +kernel
theorem mv_Ma_areFull : mv_ok mt_Ma_areFull 0 := ⟨im_Ma_areFull, se_Ma_areFull, co_Ma_areFull, it_Ma, ⟨by decide +kernel, by decide +kernel, by decide +kernel⟩, by decide⟩
theorem pf_Ma_keep : plainFor mt_Ma_keep.1 = true := by decide +kernel
theorem mv_Ma_keep : mv_ok mt_Ma_keep 4 := ⟨im_Ma_keep, se_Ma_keep, co_Ma_keep, it_Ma, ⟨by decide +kernel, by decide +kernel, by decide +kernel⟩, by decide⟩
theorem pf_K_untell : plainFor mt_K_untell.1 = true := by decide +kernel
theorem mv_K_untell : mv_ok mt_K_untell 1 := ⟨im_K_untell, se_K_untell, co_K_untell, it_K, ⟨by decide +kernel, by decide +kernel, by decide +kernel⟩, by decide⟩
theorem pf_Ma_takeBack : plainFor mt_Ma_takeBack.1 = true := by decide +kernel
theorem mv_Ma_takeBack : mv_ok mt_Ma_takeBack 2 := ⟨im_Ma_takeBack, se_Ma_takeBack, co_Ma_takeBack, it_Ma, ⟨by decide +kernel, by decide +kernel, by decide +kernel⟩, by decide⟩
theorem pf_K_grade : plainFor mt_K_grade.1 = true := by decide +kernel
theorem mv_K_grade : mv_ok mt_K_grade 2 := ⟨im_K_grade, se_K_grade, co_K_grade, it_K, ⟨by decide +kernel, by decide +kernel, by decide +kernel⟩, by decide⟩
theorem pf_Ma_middleOf : plainFor mt_Ma_middleOf.1 = true := by decide +kernel
theorem mv_Ma_middleOf : mv_ok mt_Ma_middleOf 2 := ⟨im_Ma_middleOf, se_Ma_middleOf, co_Ma_middleOf, it_Ma, ⟨by decide +kernel, by decide +kernel, by decide +kernel⟩, by decide⟩
theorem pf_Ma_gatherLast : plainFor mt_Ma_gatherLast.1 = true := by decide +kernel
theorem mv_Ma_gatherLast : mv_ok mt_Ma_gatherLast 2 := ⟨im_Ma_gatherLast, se_Ma_gatherLast, co_Ma_gatherLast, it_Ma, ⟨by decide +kernel, by decide +kernel, by decide +kernel⟩, by decide⟩
theorem pf_Ma_isKnown : plainFor mt_Ma_isKnown.1 = true := by decide +kernel
theorem mv_Ma_isKnown : mv_ok mt_Ma_isKnown 2 := ⟨im_Ma_isKnown, se_Ma_isKnown, co_Ma_isKnown, it_Ma, ⟨by decide +kernel, by decide +kernel, by decide +kernel⟩, by decide⟩
theorem pf_Ma_gradersWith : plainFor mt_Ma_gradersWith.1 = true := by decide +kernel
theorem mv_Ma_gradersWith : mv_ok mt_Ma_gradersWith 1 := ⟨im_Ma_gradersWith, se_Ma_gradersWith, co_Ma_gradersWith, it_Ma, ⟨by decide +kernel, by decide +kernel, by decide +kernel⟩, by decide⟩
theorem pf_K_beside : plainFor mt_K_beside.1 = true := by decide +kernel
theorem mv_K_beside : mv_ok mt_K_beside 2 := ⟨im_K_beside, se_K_beside, co_K_beside, it_K, ⟨by decide +kernel, by decide +kernel, by decide +kernel⟩, by decide⟩
theorem pf_St_besideAny : plainFor mt_St_besideAny.1 = true := by decide +kernel
theorem mv_St_besideAny : mv_ok mt_St_besideAny 2 := ⟨im_St_besideAny, se_St_besideAny, co_St_besideAny, it_St, ⟨by decide +kernel, by decide +kernel, by decide +kernel⟩, by decide⟩
theorem pf_St_besideStay : plainFor mt_St_besideStay.1 = true := by decide +kernel
theorem mv_St_besideStay : mv_ok mt_St_besideStay 2 := ⟨im_St_besideStay, se_St_besideStay, co_St_besideStay, it_St, ⟨by decide +kernel, by decide +kernel, by decide +kernel⟩, by decide⟩
theorem pf_St_shareNight : plainFor mt_St_shareNight.1 = true := by decide +kernel
theorem mv_St_shareNight : mv_ok mt_St_shareNight 3 := ⟨im_St_shareNight, se_St_shareNight, co_St_shareNight, it_St, ⟨by decide +kernel, by decide +kernel, by decide +kernel⟩, by decide⟩
theorem pf_St_nightsUpTo : plainFor mt_St_nightsUpTo.1 = true := by decide +kernel
theorem mv_St_nightsUpTo : mv_ok mt_St_nightsUpTo 2 := ⟨im_St_nightsUpTo, se_St_nightsUpTo, co_St_nightsUpTo, it_St, ⟨by decide +kernel, by decide +kernel, by decide +kernel⟩, by decide⟩
theorem pf_K_reached : plainFor mt_K_reached.1 = true := by decide +kernel
theorem mv_K_reached : mv_ok mt_K_reached 1 := ⟨im_K_reached, se_K_reached, co_K_reached, it_K, ⟨by decide +kernel, by decide +kernel, by decide +kernel⟩, by decide⟩
theorem pf_K_wheelsFrom : plainFor mt_K_wheelsFrom.1 = true := by decide +kernel
theorem mv_K_wheelsFrom : mv_ok mt_K_wheelsFrom 1 := ⟨im_K_wheelsFrom, se_K_wheelsFrom, co_K_wheelsFrom, it_K, ⟨by decide +kernel, by decide +kernel, by decide +kernel⟩, by decide⟩
theorem pf_K_about : plainFor mt_K_about.1 = true := by decide +kernel
theorem mv_K_about : mv_ok mt_K_about 1 := ⟨im_K_about, se_K_about, co_K_about, it_K, ⟨by decide +kernel, by decide +kernel, by decide +kernel⟩, by decide⟩
theorem pf_Mo_init : plainFor mt_Mo_init.1 = true := by decide +kernel
theorem iv_Mo_init : iv_ok mt_Mo_init 0 := ⟨im_Mo_init, rfl, rfl, co_Mo_init, it_Mo, ⟨by decide +kernel, by decide +kernel, by decide +kernel⟩, by decide⟩
theorem pf_Mo_air : plainFor mt_Mo_air.1 = true := by decide +kernel
theorem mv_Mo_air : mv_ok mt_Mo_air 2 := ⟨im_Mo_air, se_Mo_air, co_Mo_air, it_Mo, ⟨by decide +kernel, by decide +kernel, by decide +kernel⟩, by decide⟩
theorem pf_Mo_isShelf : plainFor mt_Mo_isShelf.1 = true := by decide +kernel
theorem sv_Mo_isShelf : sv_ok mt_Mo_isShelf 1 := ⟨sm_Mo_isShelf, co_Mo_isShelf, it_Mo, ⟨by decide +kernel, by decide +kernel, by decide +kernel⟩, by decide⟩
theorem pf_Mo_damp : plainFor mt_Mo_damp.1 = true := by decide +kernel
theorem mv_Mo_damp : mv_ok mt_Mo_damp 2 := ⟨im_Mo_damp, se_Mo_damp, co_Mo_damp, it_Mo, ⟨by decide +kernel, by decide +kernel, by decide +kernel⟩, by decide⟩
theorem pf_Mo_milk : plainFor mt_Mo_milk.1 = true := by decide +kernel
theorem mv_Mo_milk : mv_ok mt_Mo_milk 2 := ⟨im_Mo_milk, se_Mo_milk, co_Mo_milk, it_Mo, ⟨by decide +kernel, by decide +kernel, by decide +kernel⟩, by decide⟩
theorem pf_Mo_wheel : plainFor mt_Mo_wheel.1 = true := by decide +kernel
theorem mv_Mo_wheel : mv_ok mt_Mo_wheel 8 := ⟨im_Mo_wheel, se_Mo_wheel, co_Mo_wheel, it_Mo, ⟨by decide +kernel, by decide +kernel, by decide +kernel⟩, by decide⟩
theorem pf_Mo_lying : plainFor mt_Mo_lying.1 = true := by decide +kernel
theorem mv_Mo_lying : mv_ok mt_Mo_lying 1 := ⟨im_Mo_lying, se_Mo_lying, co_Mo_lying, it_Mo, ⟨by decide +kernel, by decide +kernel, by decide +kernel⟩, by decide⟩
theorem pf_Mo_canGive : plainFor mt_Mo_canGive.1 = true := by decide +kernel
theorem mv_Mo_canGive : mv_ok mt_Mo_canGive 2 := ⟨im_Mo_canGive, se_Mo_canGive, co_Mo_canGive, it_Mo, ⟨by decide +kernel, by decide +kernel, by decide +kernel⟩, by decide⟩
theorem pf_Mo_give : plainFor mt_Mo_give.1 = true := by decide +kernel
theorem mv_Mo_give : mv_ok mt_Mo_give 3 := ⟨im_Mo_give, se_Mo_give, co_Mo_give, it_Mo, ⟨by decide +kernel, by decide +kernel, by decide +kernel⟩, by decide⟩
theorem pf_Mo_lay : plainFor mt_Mo_lay.1 = true := by decide +kernel
theorem mv_Mo_lay : mv_ok mt_Mo_lay 2 := ⟨im_Mo_lay, se_Mo_lay, co_Mo_lay, it_Mo, ⟨by decide +kernel, by decide +kernel, by decide +kernel⟩, by decide⟩
theorem pf_Mo_sell : plainFor mt_Mo_sell.1 = true := by decide +kernel
theorem mv_Mo_sell : mv_ok mt_Mo_sell 1 := ⟨im_Mo_sell, se_Mo_sell, co_Mo_sell, it_Mo, ⟨by decide +kernel, by decide +kernel, by decide +kernel⟩, by decide⟩
theorem pf_Mo_lies : plainFor mt_Mo_lies.1 = true := by decide +kernel
theorem mv_Mo_lies : mv_ok mt_Mo_lies 1 := ⟨im_Mo_lies, se_Mo_lies, co_Mo_lies, it_Mo, ⟨by decide +kernel, by decide +kernel, by decide +kernel⟩, by decide⟩
theorem pf_Mo_isWheel : plainFor mt_Mo_isWheel.1 = true := by decide +kernel
theorem mv_Mo_isWheel : mv_ok mt_Mo_isWheel 1 := ⟨im_Mo_isWheel, se_Mo_isWheel, co_Mo_isWheel, it_Mo, ⟨by decide +kernel, by decide +kernel, by decide +kernel⟩, by decide⟩
theorem pf_Mo_feed : plainFor mt_Mo_feed.1 = true := by decide +kernel
theorem mv_Mo_feed : mv_ok mt_Mo_feed 5 := ⟨im_Mo_feed, se_Mo_feed, co_Mo_feed, it_Mo, ⟨by decide +kernel, by decide +kernel, by decide +kernel⟩, by decide⟩
theorem pf_Mo_four : plainFor mt_Mo_four.1 = true := by decide +kernel
theorem mv_Mo_four : mv_ok mt_Mo_four 1 := ⟨im_Mo_four, se_Mo_four, co_Mo_four, it_Mo, ⟨by decide +kernel, by decide +kernel, by decide +kernel⟩, by decide⟩
theorem pf_Mo_end : plainFor mt_Mo_end.1 = true := by decide +kernel
theorem mv_Mo_end : mv_ok mt_Mo_end 1 := ⟨im_Mo_end, se_Mo_end, co_Mo_end, it_Mo, ⟨by decide +kernel, by decide +kernel, by decide +kernel⟩, by decide⟩
theorem pf_Mo_orders : plainFor mt_Mo_orders.1 = true := by decide +kernel
theorem mv_Mo_orders : mv_ok mt_Mo_orders 0 := ⟨im_Mo_orders, se_Mo_orders, co_Mo_orders, it_Mo, ⟨by decide +kernel, by decide +kernel, by decide +kernel⟩, by decide⟩
theorem pf_Mo_next : plainFor mt_Mo_next.1 = true := by decide +kernel
theorem mv_Mo_next : mv_ok mt_Mo_next 0 := ⟨im_Mo_next, se_Mo_next, co_Mo_next, it_Mo, ⟨by decide +kernel, by decide +kernel, by decide +kernel⟩, by decide⟩
theorem pf_Mo_here : plainFor mt_Mo_here.1 = true := by decide +kernel
theorem mv_Mo_here : mv_ok mt_Mo_here 1 := ⟨im_Mo_here, se_Mo_here, co_Mo_here, it_Mo, ⟨by decide +kernel, by decide +kernel, by decide +kernel⟩, by decide⟩
theorem pf_Mo_isLetter : plainFor mt_Mo_isLetter.1 = true := by decide +kernel
theorem sv_Mo_isLetter : sv_ok mt_Mo_isLetter 1 := ⟨sm_Mo_isLetter, co_Mo_isLetter, it_Mo, ⟨by decide +kernel, by decide +kernel, by decide +kernel⟩, by decide⟩
theorem pf_Mo_isDigit : plainFor mt_Mo_isDigit.1 = true := by decide +kernel
theorem sv_Mo_isDigit : sv_ok mt_Mo_isDigit 1 := ⟨sm_Mo_isDigit, co_Mo_isDigit, it_Mo, ⟨by decide +kernel, by decide +kernel, by decide +kernel⟩, by decide⟩
theorem pf_Mo_isSign : plainFor mt_Mo_isSign.1 = true := by decide +kernel
theorem sv_Mo_isSign : sv_ok mt_Mo_isSign 1 := ⟨sm_Mo_isSign, co_Mo_isSign, it_Mo, ⟨by decide +kernel, by decide +kernel, by decide +kernel⟩, by decide⟩
theorem pf_Mo_isWord : plainFor mt_Mo_isWord.1 = true := by decide +kernel
theorem mv_Mo_isWord : mv_ok mt_Mo_isWord 1 := ⟨im_Mo_isWord, se_Mo_isWord, co_Mo_isWord, it_Mo, ⟨by decide +kernel, by decide +kernel, by decide +kernel⟩, by decide⟩
theorem pf_Mo_wrong : plainFor mt_Mo_wrong.1 = true := by decide +kernel
theorem mv_Mo_wrong : mv_ok mt_Mo_wrong 1 := ⟨im_Mo_wrong, se_Mo_wrong, co_Mo_wrong, it_Mo, ⟨by decide +kernel, by decide +kernel, by decide +kernel⟩, by decide⟩
theorem pf_Mo_readE : plainFor mt_Mo_readE.1 = true := by decide +kernel
theorem mv_Mo_readE : mv_ok mt_Mo_readE 0 := ⟨im_Mo_readE, se_Mo_readE, co_Mo_readE, it_Mo, ⟨by decide +kernel, by decide +kernel, by decide +kernel⟩, by decide⟩
theorem pf_Mo_isOpen : plainFor mt_Mo_isOpen.1 = true := by decide +kernel
theorem mv_Mo_isOpen : mv_ok mt_Mo_isOpen 0 := ⟨im_Mo_isOpen, se_Mo_isOpen, co_Mo_isOpen, it_Mo, ⟨by decide +kernel, by decide +kernel, by decide +kernel⟩, by decide⟩
theorem pf_Mo_sign : plainFor mt_Mo_sign.1 = true := by decide +kernel
theorem mv_Mo_sign : mv_ok mt_Mo_sign 0 := ⟨im_Mo_sign, se_Mo_sign, co_Mo_sign, it_Mo, ⟨by decide +kernel, by decide +kernel, by decide +kernel⟩, by decide⟩
theorem pf_Mo_settle : plainFor mt_Mo_settle.1 = true := by decide +kernel
theorem mv_Mo_settle : mv_ok mt_Mo_settle 1 := ⟨im_Mo_settle, se_Mo_settle, co_Mo_settle, it_Mo, ⟨by decide +kernel, by decide +kernel, by decide +kernel⟩, by decide⟩
theorem pf_Mo_pop : plainFor mt_Mo_pop.1 = true := by decide +kernel
theorem mv_Mo_pop : mv_ok mt_Mo_pop 0 := ⟨im_Mo_pop, se_Mo_pop, co_Mo_pop, it_Mo, ⟨by decide +kernel, by decide +kernel, by decide +kernel⟩, by decide⟩
theorem pf_Mo_step : plainFor mt_Mo_step.1 = true := by decide +kernel
theorem mv_Mo_step : mv_ok mt_Mo_step 2 := ⟨im_Mo_step, se_Mo_step, co_Mo_step, it_Mo, ⟨by decide +kernel, by decide +kernel, by decide +kernel⟩, by decide⟩
theorem pf_Mo_hold : plainFor mt_Mo_hold.1 = true := by decide +kernel
theorem mv_Mo_hold : mv_ok mt_Mo_hold 1 := ⟨im_Mo_hold, se_Mo_hold, co_Mo_hold, it_Mo, ⟨by decide +kernel, by decide +kernel, by decide +kernel⟩, by decide⟩
theorem pf_Mo_settleOnes : plainFor mt_Mo_settleOnes.1 = true := by decide +kernel
theorem mv_Mo_settleOnes : mv_ok mt_Mo_settleOnes 1 := ⟨im_Mo_settleOnes, se_Mo_settleOnes, co_Mo_settleOnes, it_Mo, ⟨by decide +kernel, by decide +kernel, by decide +kernel⟩, by decide⟩
theorem pf_Mo_operand : plainFor mt_Mo_operand.1 = true := by decide +kernel
theorem mv_Mo_operand : mv_ok mt_Mo_operand 1 := ⟨im_Mo_operand, se_Mo_operand, co_Mo_operand, it_Mo, ⟨by decide +kernel, by decide +kernel, by decide +kernel⟩, by decide⟩
theorem pf_Mo_isKey : plainFor mt_Mo_isKey.1 = true := by decide +kernel
theorem mv_Mo_isKey : mv_ok mt_Mo_isKey 0 := ⟨im_Mo_isKey, se_Mo_isKey, co_Mo_isKey, it_Mo, ⟨by decide +kernel, by decide +kernel, by decide +kernel⟩, by decide⟩
theorem pf_Mo_named : plainFor mt_Mo_named.1 = true := by decide +kernel
theorem mv_Mo_named : mv_ok mt_Mo_named 0 := ⟨im_Mo_named, se_Mo_named, co_Mo_named, it_Mo, ⟨by decide +kernel, by decide +kernel, by decide +kernel⟩, by decide⟩
theorem pf_Mo_fault : plainFor mt_Mo_fault.1 = true := by decide +kernel
theorem mv_Mo_fault : mv_ok mt_Mo_fault 1 := ⟨im_Mo_fault, se_Mo_fault, co_Mo_fault, it_Mo, ⟨by decide +kernel, by decide +kernel, by decide +kernel⟩, by decide⟩
theorem pf_Mo_days : plainFor mt_Mo_days.1 = true := by decide +kernel
theorem mv_Mo_days : mv_ok mt_Mo_days 1 := ⟨im_Mo_days, se_Mo_days, co_Mo_days, it_Mo, ⟨by decide +kernel, by decide +kernel, by decide +kernel⟩, by decide⟩
theorem pf_Mo_care : plainFor mt_Mo_care.1 = true := by decide +kernel
theorem mv_Mo_care : mv_ok mt_Mo_care 1 := ⟨im_Mo_care, se_Mo_care, co_Mo_care, it_Mo, ⟨by decide +kernel, by decide +kernel, by decide +kernel⟩, by decide⟩
theorem pf_Mo_tell : plainFor mt_Mo_tell.1 = true := by decide +kernel
theorem mv_Mo_tell : mv_ok mt_Mo_tell 1 := ⟨im_Mo_tell, se_Mo_tell, co_Mo_tell, it_Mo, ⟨by decide +kernel, by decide +kernel, by decide +kernel⟩, by decide⟩
theorem pf_Mo_holds : plainFor mt_Mo_holds.1 = true := by decide +kernel
theorem mv_Mo_holds : mv_ok mt_Mo_holds 1 := ⟨im_Mo_holds, se_Mo_holds, co_Mo_holds, it_Mo, ⟨by decide +kernel, by decide +kernel, by decide +kernel⟩, by decide⟩
theorem pf_Mo_within : plainFor mt_Mo_within.1 = true := by decide +kernel
theorem sv_Mo_within : sv_ok mt_Mo_within 1 := ⟨sm_Mo_within, co_Mo_within, it_Mo, ⟨by decide +kernel, by decide +kernel, by decide +kernel⟩, by decide⟩
theorem pf_Mo_of : plainFor mt_Mo_of.1 = true := by decide +kernel
theorem mv_Mo_of : mv_ok mt_Mo_of 2 := ⟨im_Mo_of, se_Mo_of, co_Mo_of, it_Mo, ⟨by decide +kernel, by decide +kernel, by decide +kernel⟩, by decide⟩
theorem pf_Mo_doesSuit : plainFor mt_Mo_doesSuit.1 = true := by decide +kernel
theorem mv_Mo_doesSuit : mv_ok mt_Mo_doesSuit 2 := ⟨im_Mo_doesSuit, se_Mo_doesSuit, co_Mo_doesSuit, it_Mo, ⟨by decide +kernel, by decide +kernel, by decide +kernel⟩, by decide⟩
theorem pf_Mo_from : plainFor mt_Mo_from.1 = true := by decide +kernel
theorem mv_Mo_from : mv_ok mt_Mo_from 2 := ⟨im_Mo_from, se_Mo_from, co_Mo_from, it_Mo, ⟨by decide +kernel, by decide +kernel, by decide +kernel⟩, by decide⟩
theorem pf_Mo_band : plainFor mt_Mo_band.1 = true := by decide +kernel
theorem mv_Mo_band : mv_ok mt_Mo_band 4 := ⟨im_Mo_band, se_Mo_band, co_Mo_band, it_Mo, ⟨by decide +kernel, by decide +kernel, by decide +kernel⟩, by decide⟩
theorem pf_Mo_suits : plainFor mt_Mo_suits.1 = true := by decide +kernel
theorem mv_Mo_suits : mv_ok mt_Mo_suits 2 := ⟨im_Mo_suits, se_Mo_suits, co_Mo_suits, it_Mo, ⟨by decide +kernel, by decide +kernel, by decide +kernel⟩, by decide⟩
theorem pf_Mo_move : plainFor mt_Mo_move.1 = true := by decide +kernel
theorem mv_Mo_move : mv_ok mt_Mo_move 2 := ⟨im_Mo_move, se_Mo_move, co_Mo_move, it_Mo, ⟨by decide +kernel, by decide +kernel, by decide +kernel⟩, by decide⟩
theorem pf_Mo_go : plainFor mt_Mo_go.1 = true := by decide +kernel
theorem mv_Mo_go : mv_ok mt_Mo_go 2 := ⟨im_Mo_go, se_Mo_go, co_Mo_go, it_Mo, ⟨by decide +kernel, by decide +kernel, by decide +kernel⟩, by decide⟩
theorem pf_Mo_plan : plainFor mt_Mo_plan.1 = true := by decide +kernel
theorem mv_Mo_plan : mv_ok mt_Mo_plan 0 := ⟨im_Mo_plan, se_Mo_plan, co_Mo_plan, it_Mo, ⟨by decide +kernel, by decide +kernel, by decide +kernel⟩, by decide⟩
theorem pf_Mo_seek : plainFor mt_Mo_seek.1 = true := by decide +kernel
theorem mv_Mo_seek : mv_ok mt_Mo_seek 0 := ⟨im_Mo_seek, se_Mo_seek, co_Mo_seek, it_Mo, ⟨by decide +kernel, by decide +kernel, by decide +kernel⟩, by decide⟩
theorem pf_Mo_costOf : plainFor mt_Mo_costOf.1 = true := by decide +kernel
theorem mv_Mo_costOf : mv_ok mt_Mo_costOf 2 := ⟨im_Mo_costOf, se_Mo_costOf, co_Mo_costOf, it_Mo, ⟨by decide +kernel, by decide +kernel, by decide +kernel⟩, by decide⟩
theorem pf_Mo_far : plainFor mt_Mo_far.1 = true := by decide +kernel
theorem sv_Mo_far : sv_ok mt_Mo_far 2 := ⟨sm_Mo_far, co_Mo_far, it_Mo, ⟨by decide +kernel, by decide +kernel, by decide +kernel⟩, by decide⟩
theorem pf_Mo_many : plainFor mt_Mo_many.1 = true := by decide +kernel
theorem sv_Mo_many : sv_ok mt_Mo_many 1 := ⟨sm_Mo_many, co_Mo_many, it_Mo, ⟨by decide +kernel, by decide +kernel, by decide +kernel⟩, by decide⟩
theorem pf_Mo_onOne : plainFor mt_Mo_onOne.1 = true := by decide +kernel
theorem mv_Mo_onOne : mv_ok mt_Mo_onOne 2 := ⟨im_Mo_onOne, se_Mo_onOne, co_Mo_onOne, it_Mo, ⟨by decide +kernel, by decide +kernel, by decide +kernel⟩, by decide⟩
theorem pf_Mo_isIn : plainFor mt_Mo_isIn.1 = true := by decide +kernel
theorem mv_Mo_isIn : mv_ok mt_Mo_isIn 2 := ⟨im_Mo_isIn, se_Mo_isIn, co_Mo_isIn, it_Mo, ⟨by decide +kernel, by decide +kernel, by decide +kernel⟩, by decide⟩
theorem pf_Mo_planned : plainFor mt_Mo_planned.1 = true := by decide +kernel
theorem mv_Mo_planned : mv_ok mt_Mo_planned 1 := ⟨im_Mo_planned, se_Mo_planned, co_Mo_planned, it_Mo, ⟨by decide +kernel, by decide +kernel, by decide +kernel⟩, by decide⟩
theorem pf_Mo_carry : plainFor mt_Mo_carry.1 = true := by decide +kernel
theorem mv_Mo_carry : mv_ok mt_Mo_carry 0 := ⟨im_Mo_carry, se_Mo_carry, co_Mo_carry, it_Mo, ⟨by decide +kernel, by decide +kernel, by decide +kernel⟩, by decide⟩
theorem pf_Mo_mark : plainFor mt_Mo_mark.1 = true := by decide +kernel
theorem mv_Mo_mark : mv_ok mt_Mo_mark 3 := ⟨im_Mo_mark, se_Mo_mark, co_Mo_mark, it_Mo, ⟨by decide +kernel, by decide +kernel, by decide +kernel⟩, by decide⟩
theorem pf_Mo_untell : plainFor mt_Mo_untell.1 = true := by decide +kernel
theorem mv_Mo_untell : mv_ok mt_Mo_untell 1 := ⟨im_Mo_untell, se_Mo_untell, co_Mo_untell, it_Mo, ⟨by decide +kernel, by decide +kernel, by decide +kernel⟩, by decide⟩
theorem pf_Mo_grade : plainFor mt_Mo_grade.1 = true := by decide +kernel
theorem mv_Mo_grade : mv_ok mt_Mo_grade 2 := ⟨im_Mo_grade, se_Mo_grade, co_Mo_grade, it_Mo, ⟨by decide +kernel, by decide +kernel, by decide +kernel⟩, by decide⟩
theorem pf_Mo_beside : plainFor mt_Mo_beside.1 = true := by decide +kernel
theorem mv_Mo_beside : mv_ok mt_Mo_beside 2 := ⟨im_Mo_beside, se_Mo_beside, co_Mo_beside, it_Mo, ⟨by decide +kernel, by decide +kernel, by decide +kernel⟩, by decide⟩
theorem pf_Mo_layBeside : plainFor mt_Mo_layBeside.1 = true := by decide +kernel
theorem mv_Mo_layBeside : mv_ok mt_Mo_layBeside 2 := ⟨im_Mo_layBeside, se_Mo_layBeside, co_Mo_layBeside, it_Mo, ⟨by decide +kernel, by decide +kernel, by decide +kernel⟩, by decide⟩
theorem pf_Mo_reached : plainFor mt_Mo_reached.1 = true := by decide +kernel
theorem mv_Mo_reached : mv_ok mt_Mo_reached 1 := ⟨im_Mo_reached, se_Mo_reached, co_Mo_reached, it_Mo, ⟨by decide +kernel, by decide +kernel, by decide +kernel⟩, by decide⟩
theorem pf_Mo_about : plainFor mt_Mo_about.1 = true := by decide +kernel
theorem mv_Mo_about : mv_ok mt_Mo_about 1 := ⟨im_Mo_about, se_Mo_about, co_Mo_about, it_Mo, ⟨by decide +kernel, by decide +kernel, by decide +kernel⟩, by decide⟩
